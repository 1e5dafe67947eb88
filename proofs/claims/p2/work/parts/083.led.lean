section CA
theorem ca_go {e : Env} {S : State} {f : JFrame} {a : Addr} {x : ExceptionTableEntry} {cT : ClassId} {cell : Cell} (hx : covers x f.pc = true) (h0 : x.catchType ≠ 0) (hl : S.vm.ClassLinks e.platform f.method.cls x.catchType cT) (hcell : S.heap[a]? = some cell) (hobj : ∀ k, cell.vm ≠ .statics k) (hk1 : ∃ k, S.vm.classes[cell.cls]? = some k) (hk2 : ∃ k, S.vm.classes[cT]? = some k) (hfit : S.vm.assignable cell.cls cT = true) (Q : Handler → Pre) (E : CtlPost) (d : Bool) (acts : List Action) :
    wp (findHandler.go f a [x]) Q E e d acts S ↔ Q (.found x.handlerPc) d acts (S.setVm (S.vm.noted f.method.cls x.catchType (.cls cT))) := by
  have hal : S.vm.Alike (S.vm.noted f.method.cls x.catchType (.cls cT)) := Vm.Alike.noted (Vm.Alike.refl S.vm) _ _ _
  obtain ⟨w1, w2⟩ := (resolveClass_links e.toSetting hl).op (op := VmOp.resolveClass f.method.cls x.catchType) rfl
  obtain ⟨k1, g1⟩ := hk1
  obtain ⟨k2, g2⟩ := hk2
  obtain ⟨k3, g3, _⟩ := hal.2.2 _ _ g1
  obtain ⟨k4, g4, _⟩ := hal.2.2 _ _ g2
  have hfit2 : (S.vm.noted f.method.cls x.catchType (.cls cT)).assignable cell.cls cT = true := by rw [hal.assignable]; exact hfit
  have hx2 : (decide (x.startPc ≤ f.pc) && decide (f.pc < x.endPc)) = true := hx
  simp [findHandler.go, hx2, h0, w1, w2, hcell, hobj, g3, g4, hfit2, VmOp.dirties, VmOp.acts]
variable {p : Program} {l : Launch} {e : Env} {R : Room} {s : State} {m : MethodId} {args : Array Value} {below : List Frame} {meth : Method} {c : Code} {H : Heap} {locs : List Loc} {cells slots : Nat} {Q : State → Prop} {pc : Nat} {ls : Array Slot} {rest : List Value}
/-- the one row of the method's table takes what was thrown -/
theorem ca_catch {own name : String} {E : String} {ce : Cell} {q : Addr} (hown : s.vm.findClass own = some m.cls) (x : ExceptionTableEntry) (hone : c.exceptionTable.toList = [x]) (hx : covers x pc = true) (h0 : x.catchType ≠ 0)
    (hlink : (Cond.classLink own x.catchType name).before args s = true) (hcast : (Cond.castable E name).before args s = true) (hcell : H[q]? = some ce) (hv : ce.vm = .none) (hcl : s.vm.findClass E = some ce.cls)
    (kk : W p l e R s m args below meth c H locs cells slots Q (F0 m x.handlerPc ls [.ref q])) : vx_W p l e R s m args below meth c H locs cells slots Q (F0 m pc ls rest) q := by
  intro T hT X
  have hpl : e.platform.magicAccessors = ({} : Platform).magicAccessors := by rw [X.admits.platform]
  obtain ⟨cE, cN, hE, hN, hfit⟩ := Cond.castable_spec hcast
  cases Option.some.inj (hE.symm.trans hcl)
  obtain ⟨cT, hcT, hlk⟩ := Cond.classLink_spec hown hlink e.platform hpl
  cases Option.some.inj (hN.symm.trans hcT)
  have hlk2 := X.warmed.classLinks hlk
  obtain ⟨dk, _, _, kt, hd, _, _, _, _, hkt, _, hopen⟩ := hlk.here
  have hW2 : s.WarmedH (T.vm.noted m.cls x.catchType (.cls cN)) := X.warmed.noted hd hopen (State.rightAt_cls hlk)
  obtain ⟨t, st, hQ⟩ := kk (T.setVm (T.vm.noted m.cls x.catchType (.cls cN))) hT (X.noted hW2)
  refine ⟨t, ?_, hQ⟩
  have hal := X.warmed.alike
  obtain ⟨kt2, hkt2, _⟩ := hal.2.2 _ _ hkt
  have hfit2 : T.vm.assignable ce.cls cN = true := by rw [hal.assignable]; exact hfit
  have hf : ∀ (Q : Handler → Pre) (E : CtlPost) (d : Bool) (acts : List Action), wp (findHandler (F0 m pc ls rest) q) Q E e d acts ((T.setTop (F0 m pc ls rest)).pushFrame (.throwing q)) ↔ Q (.found x.handlerPc) d acts (((T.setTop (F0 m pc ls rest)).pushFrame (.throwing q)).setVm (T.vm.noted m.cls x.catchType (.cls cN))) := by
    intro Q E d acts
    rw [W.findHandler_eq (meth := meth) (code := c) X.method' X.code, hone]
    exact ca_go (S := (T.setTop (F0 m pc ls rest)).pushFrame (.throwing q)) (f := F0 m pc ls rest) hx h0 hlk2 (by rw [← hT] at hcell; exact hcell) (fun k => by rw [hv]; intro h; cases h) (Vm.classAt_of_assignable hfit2 ⟨kt2, hkt2⟩) ⟨kt2, hkt2⟩ hfit2 Q E d acts
  obtain ⟨hgo, hwi⟩ := At.throwing (g := F0 m pc ls rest) X.here q
  refine Steps.head hgo hwi ?_
  have hstep : (stepThrowing e ((T.setTop (F0 m pc ls rest)).pushFrame (.throwing q)) q (.java (F0 m pc ls rest) :: T.frames.tail)).Is ((((T.setTop (F0 m pc ls rest)).pushFrame (.throwing q)).setVm (T.vm.noted m.cls x.catchType (.cls cN))).setFrames (.java (F0 m x.handlerPc ls [.ref q]) :: T.frames.tail)) [] := by
    simp only [stepThrowing, searchFrame, vmDo]
    generalize hres : Sem.go _ e false [] ((T.setTop (F0 m pc ls rest)).pushFrame (.throwing q)) = res
    obtain ⟨as, rfl, ha⟩ := Sem.eq_ok_of hres (a := Handler.found x.handlerPc) (s' := ((T.setTop (F0 m pc ls rest)).pushFrame (.throwing q)).setVm (T.vm.noted m.cls x.catchType (.cls cN))) (acts' := []) (by simp [hf _ _ _ _])
    exact ⟨rfl, ha⟩
  rw [stepThread_throwing (frames_entered X.here.top _), hstep.1]
  obtain ⟨g0, hg0⟩ := Option.isSome_iff_exists.mp X.here.top
  obtain ⟨r, hr⟩ := State.topJava?_eq_some.mp hg0
  have hr2 : (T.setVm (T.vm.noted m.cls x.catchType (.cls cN))).frames = .java g0 :: r := hr
  rw [State.setTop_of_frames _ hr2] at st
  have e3 : (((T.setTop (F0 m pc ls rest)).pushFrame (.throwing q)).setVm (T.vm.noted m.cls x.catchType (.cls cN))).setFrames (.java (F0 m x.handlerPc ls [.ref q]) :: T.frames.tail) = (T.setVm (T.vm.noted m.cls x.catchType (.cls cN))).setFrames (.java (F0 m x.handlerPc ls [.ref q]) :: r) := by
    rw [hr, State.setTop_of_frames _ hr, State.pushFrame, State.setFrames_setFrames]
    show ((T.setVm (T.vm.noted m.cls x.catchType (.cls cN))).setFrames _).setFrames _ = _
    rw [State.setFrames_setFrames]
    rfl
  rw [e3]
  exact st
end CA

abbrev NSE : String := "java/util/NoSuchElementException"
def VXL : List Cond := vx_at0 RX11 340 NSE ["java/lang/RuntimeException", "java/lang/Exception"]
def VXG : List Cond := VXL.filter goodWord
def VXB : List Cond := VXL.filter (fun w => !goodWord w)
theorem VXG_in : ∀ w ∈ VXG, w ∈ lw_tbl := by decide +kernel
theorem VXB_in : ∀ w ∈ VXB, w ∈ lw_tbl := by decide +kernel
theorem VXB_ok : VXB.all (fun w => w.onTables && w.keepsFace) = true := by decide +kernel
theorem VXG_ok : VXG.all goodWord = true := by decide +kernel
theorem VXL_ot : ∀ w ∈ Cond.classLink RX11 338 NSE :: Cond.initialized NSE :: VXL, vx_ot w = true := by decide +kernel
def EX (U : State) : Prop := ∀ w ∈ VXB, va_Nw w U
theorem VXB_at {w : Cond} (h : w ∈ VXB) : w.onTables = true ∧ w.keepsFace = true := by
  have h1 := List.all_eq_true.mp VXB_ok w h
  simpa using h1
theorem EX.warm {s U : State} (hW : s.WarmedH U.vm) (h : EX s) : EX U := fun w hw => va_tabs (VXB_at hw).1 (rfl : (s.setVm U.vm).vm = U.vm) (Cond.before_shiftedFace (State.Shifted.of_warmed hW) w (VXB_at hw).2 (h w hw))
theorem EX.same {u U : State} (hv : u.vm = U.vm) (h : EX u) : EX U := fun w hw => va_tabs (VXB_at hw).1 hv (h w hw)
theorem EX.of {s : State} {args : Array Value} (hts : ∀ w ∈ lw_tbl, w.before args s = true) : EX s := fun w hw => va_Nw.of (VXB_at hw).1 (hts w (VXB_in w hw))
theorem EX.hat {s : State} {args : Array Value} (h : EX s) (h1 : ∀ w ∈ VXG, w.before args s = true) : ∀ w ∈ VXL, w.before args s = true := vx_hat (B := VXB) h1 (fun _ h => h) (fun w hw => va_Nw.use (VXB_at hw).1 (h w hw))
theorem zq_pre {C n d : String} {A B : Nat → Prop} {s U : State} {H : Heap} {locs : List Loc} (h : vx_Zq C n d A s s.heap) (hS : va_S A s.heap H locs) (hAB : ∀ q, B q → A q) (hU : U.heap = H) (hW : s.WarmedH U.vm) : vx_Zq C n d B U U.heap := by
  rw [hU]
  exact ((h.kept hS.2.1).narrow hAB).moved hW.alike
def PwX (G : KG) (ws : va_W) (sz : Nat) (U : State) : Prop := Pw G ws sz U ∧ EX U ∧ vx_Zq Bundle.tN "UNASSIGNED_STACK" Bundle.steD (va_A ws sz) U U.heap ∧ vx_Zq Bundle.tN "SUPPRESSED_SENTINEL" Bundle.listD (va_A ws sz) U U.heap
theorem PwX_blind {G : KG} {av : List Value} {ws : va_W} {sz : Nat} : FrameBlind (va_Pc av (PwX G ws sz)) := fun a U g mk h => ⟨h.1, (Pw_blind (av := av) a U g mk ⟨h.1, h.2.1⟩).2, EX.same (u := U) rfl h.2.2.1, vx_Zq.moved (u := U) (U := U.calling g mk a) (Vm.Alike.refl U.vm) h.2.2.2.1, vx_Zq.moved (u := U) (U := U.calling g mk a) (Vm.Alike.refl U.vm) h.2.2.2.2⟩
theorem gTX {Ts ws : List Cond} (hT : ∀ w ∈ wsL_law ++ VXG, w ∈ Ts) (h : ∀ w ∈ ws, w ∈ wsL_law ++ VXG) : GoodIn Ts ws := fun w hw => ⟨hT w (h w hw), by
  rcases List.mem_append.mp (h w hw) with h1 | h1
  · exact good_of_word (List.all_eq_true.mp gWL w h1)
  · exact good_of_word (List.all_eq_true.mp VXG_ok w h1)⟩

theorem t_iretx {p : Program} {l : Launch} {e : Env} {R : Room} {s : State} {m : MethodId} {args : Array Value} {below : List Frame} {meth : Method} {c : Code} {H : Heap} {locs : List Loc} {cells slots : Nat} {Q : State → Prop} {pc : Nat} {ls : Array Slot} {cc : ByteArray} {nL : Nat} {own : String} {G : KG} {A : Nat → Prop} {Ts : List Cond} {tt : TT} {tag : Nat → Nat} {L : List Nat} {F : Nat → va_E} {post : Int32 → (Nat → va_E) → Prop} {XC : String → State → State → Prop} {v : Int32} {k n : Nat} (hQ : Q = vx_MQ below (va_Qi (fun r F1 => okT G tt tag L F1 ∧ post r F1) (fun F1 t => Bw G A (va_pl L F1) t) A) XC args s k n A) (X : CX p s m args meth c cc nL own (some .int) G A Ts) (hT : TH G tt A s tag L F H locs) (hp : post v F) (h1 : cells ≤ k) (h2 : slots ≤ n) (hdg : decode cc pc = .ok (.ireturn, 1)) :
    W p l e R s m args below meth c H locs cells slots Q (F0 m pc ls [.int v]) := by
  rw [hQ]
  exact vx_ret (t_iret rfl X hT hp h1 h2 hdg)
set_option maxHeartbeats 4000000 in
set_option maxRecDepth 100000 in
theorem kx_led (l : Launch) (hlt : l.stackTraces = false) (G : KG) (tag : Nat → Nat) (L : List Nat) (F : Nat → va_E) (ho : okT G ttC tag L F) (p0 : Nat) (p1 : Int32) (m0 : p0 ∈ L) (g0 : tag p0 = 26) (sz : Nat) : vx_Met l yX11_led (.code yX11_led cX11_led 4 (some .int) :: (wsL_law ++ VXG)) { frames := 6, cells := 1, slots := 6, locals := 101 } (va_Pc [.ref p0, .int p1] (PwX G (va_pl L F) sz)) (va_Qi (fun (r : Int32) (F1 : Nat → va_E) => okT G ttC tag L F1 ∧ F1 = F) (fun F1 t => Bw G (va_A (va_pl L F) sz) (va_pl L F1) t) (va_A (va_pl L F) sz)) (vx_X (fun (_ : Unit) => True) (fun E _ t => E = NSE ∧ va_P G.1 vwCl (va_pl L F) t.heap) (va_A (va_pl L F) sz)) 1 6 (va_A (va_pl L F) sz) := by
  refine vx_ofW (cc := cX11_led) (maxL := 4) (ret := some .int) (by decide) rfl ?_
  intro p e s m args below meth c s₁ B hml htab hv
  obtain ⟨rfl, ⟨hsz, hP, hK, hD0, hE⟩, hX9, hU, hN⟩ := hv
  have hts := atoms_spec (ws := (.code yX11_led cX11_led 4 (some .int) :: (wsL_law ++ VXG))) B.pre
  have hown : s.vm.findClass RX11 = some m.cls := findClass_of_methodNamed B.named
  have X : CX p s m _ meth c cX11_led 4 RX11 (some .int) G (va_A (va_pl L F) sz) (.code yX11_led cX11_led 4 (some .int) :: (wsL_law ++ VXG)) := ⟨⟨B.exec, B.bytes, hml, hown, hts⟩, fun w h => List.mem_cons_of_mem _ (List.mem_append_left _ h), hK, hE, fun q h => Or.inr (hsz ▸ h), B.returns, B.notSynchronized⟩
  have hx := X.1.1
  have hb := X.1.2.1
  have hT : TH G ttC (va_A (va_pl L F) sz) s tag L F s.heap [] := ⟨hP, hD0.self, va_S.rf, ho⟩
  have hl := lv_entry [.ref p0, .int p1] (n := 4) (Nat.le_of_ble_eq_true rfl)
  rw [lg_entry_eq]
  generalize (lg_sl [.ref p0, .int p1] ++ List.replicate (4 - (lg_sl [.ref p0, .int p1]).length) Slot.unset).toArray = ls at hl ⊢
  have hl : lv_has ls 4 [(0, .ref p0), (1, .int p1)] := hl
  have rp1 := rg_all p1
  obtain ⟨A, hA⟩ : ∃ A : Nat → Prop, A = (va_A (va_pl L F) sz) := ⟨_, rfl⟩
  rw [← hA] at X hT hU hN ⊢
  obtain ⟨args, hargs⟩ : ∃ a : Array Value, a = ([.ref p0, .int p1] : List Value).toArray := ⟨_, rfl⟩
  rw [← hargs] at X hts ⊢
  obtain ⟨Q, hQ⟩ : ∃ Q : State → Prop, Q = vx_MQ below (va_Qi (fun (r : Int32) (F1 : Nat → va_E) => okT G ttC tag L F1 ∧ F1 = F) (fun F1 t => Bw G A (va_pl L F1) t) A) (vx_X (fun (_ : Unit) => True) (fun E _ t => E = NSE ∧ va_P G.1 vwCl (va_pl L F) t.heap) A) args s 1 6 A := ⟨_, rfl⟩
  rw [← hQ]
  show W p l e { frames := 6, cells := 1, slots := 6, locals := 101 } s m args below meth c s.heap [] 0 0 Q (F0 m 0 ls [])
  have K53 : ∀ (z172930 : Int32) (z172931 : Int32) (z172932 : Int32) (H : Heap) (locs : List Loc) (ls : Array Slot), (0 ≤ z172931.toInt ∧ z172931.toInt ≤ 4) → (0 ≤ z172932.toInt ∧ z172932.toInt ≤ 1) → TH G ttC A s tag L F H locs → fld F p0 2 = .int z172932 → lv_has ls 4 [(0, .ref p0), (1, .int p1), (2, .int z172930), (3, .int z172931)] → W p l e { frames := 6, cells := 1, slots := 6, locals := 101 } s m args below meth c H locs 0 0 Q (F0 m 53 ls []) := by
    intro z172930 z172931 z172932 H locs ls rz172931 rz172932 hT qz172932 hl
    have rz172930 := rg_all z172930
    rw [hQ]
    exact vx_throw0 (own := RX11) (cls := NSE) (names := ["java/lang/RuntimeException", "java/lang/Exception"]) (ik := 338) (ic := 340) (A := A) hx hb hlt hown (by decide +kernel) (by decide +kernel) (hts _ (List.mem_cons_of_mem _ (List.mem_append_left _ qw_1570))) (hts _ (List.mem_cons_of_mem _ (List.mem_append_left _ qw_1571))) (hX9.hat (fun w h => hts w (List.mem_cons_of_mem _ (List.mem_append_right _ h)))) VXL_ot hU hN hT.2.2.1 (hl.1.trans hml.symm) dX11_led_53 dX11_led_56 dX11_led_57 dX11_led_60 (fun x hx => (htab x hx).elim) (Nat.le_of_ble_eq_true rfl) (Nat.le_of_ble_eq_true rfl) (Nat.le_of_ble_eq_true rfl) (Nat.le_of_ble_eq_true rfl) X.2.2.2.2.2.2 (fun t _ h1 h2 => ⟨(), trivial, ⟨rfl, fun k q hk => (hT.1 k q hk).kept (h2 q.1 (hT.1 k q hk).lt)⟩, Nat.le_trans hT.2.2.1.1 h1, fun q h3 h4 => (h2 q (Nat.lt_of_lt_of_le h3 hT.2.2.1.1)).trans (hT.2.2.1.2.1 q h3 h4)⟩) hT.2.2.1.2.2 (Nat.le_of_ble_eq_true rfl) (Nat.le_of_ble_eq_true rfl)
  have K4 : ∀ (n : Nat) (z172933 : Int32) (z172934 : Int32) (H : Heap) (locs : List Loc) (ls : Array Slot), (4 - z172934.toInt < (n : Int)) → (0 ≤ z172934.toInt ∧ z172934.toInt ≤ 4) → TH G ttC A s tag L F H locs → lv_has ls 4 [(0, .ref p0), (1, .int p1), (2, .int z172933), (3, .int z172934)] → W p l e { frames := 6, cells := 1, slots := 6, locals := 101 } s m args below meth c H locs 0 0 Q (F0 m 4 ls []) := by
    intro n
    induction n with
    | zero =>
      intro z172933 z172934 H locs ls hn rz172934 hT hl
      have rz172933 := rg_all z172933
      exfalso
      omega
    | succ n ih4 =>
      intro z172933 z172934 H locs ls hn rz172934 hT hl
      have rz172933 := rg_all z172933
      have K47 : ∀ (z172935 : Int32) (z172937 : Int32) (H : Heap) (locs : List Loc) (ls : Array Slot), (1 ≤ z172937.toInt ∧ z172937.toInt ≤ 1) → (0 ≤ z172934.toInt ∧ z172934.toInt ≤ 3) → TH G ttC A s tag L F H locs → fld F p0 2 = .int z172937 → lv_has ls 4 [(0, .ref p0), (1, .int p1), (2, .int z172935), (3, .int z172934)] → W p l e { frames := 6, cells := 1, slots := 6, locals := 101 } s m args below meth c H locs 0 0 Q (F0 m 47 ls []) := by
        intro z172935 z172937 H locs ls rz172937 r9s172936 hT qz172937 hl
        have rz172935 := rg_all z172935
        obtain ⟨z172938, ez172938⟩ : ∃ y : Int32, y = z172934 + 1 := ⟨_, rfl⟩
        have hz172938 : z172938.toInt = z172934.toInt + 1 := ar_add ez172938 rfl (by decide : (1 : Int32).toInt = 1) (by omega) (by omega)
        refine lv_iinc (v := z172938) (lv' := [(3, .int z172938), (0, .ref p0), (1, .int p1), (2, .int z172935)]) hx hb dX11_led_47 hl (k := 3) rfl (by rw [ez172938]; rfl) (by decide) rfl (fun ls hl => ?_)
        refine lv_goto (tgt := 4) hx hb dX11_led_50 (by decide) ?_
        exact ih4 z172935 z172938 _ _ _ (by omega) (by omega) hT  (lv_sub hl [1, 2, 3, 0] rfl)
      refine lv_aload_n hx hb dX11_led_4 rfl (lv_at hl 0 rfl) ?_
      refine t_get (C := RX11) (T := TX11) (N := 16) X hT m0 g0 rfl rfl 2 (by decide) qw_150 inlX11 rfl dX11_led_5 (fun v172939 hv172939 ov172939 => ?_)
      obtain ⟨z172940, rfl, rz172940⟩ := okV_i ov172939
      refine lv_if_eq (tgt := 53) hx hb dX11_led_8 (by decide) (fun c172941 => ?_) (fun c172941 => ?_)
      · have w172942 := cv_eq (rfl : z172940.toInt = z172940.toInt) (by decide : (0 : Int32).toInt = 0) c172941
        exact K53 z172933 z172934 z172940 _ _ _ (by omega) (by omega) hT hv172939 (lv_sub hl [0, 1, 2, 3] rfl)
      · have w172943 := cv_ne (rfl : z172940.toInt = z172940.toInt) (by decide : (0 : Int32).toInt = 0) c172941
        refine lv_iload_n hx hb dX11_led_11 rfl (lv_at hl 3 rfl) ?_
        refine lv_aload_n hx hb dX11_led_12 rfl (lv_at hl 0 rfl) ?_
        refine t_get (C := RX11) (T := TX11) (N := 16) X hT m0 g0 rfl rfl 3 (by decide) qw_18 inlX11 rfl dX11_led_13 (fun v172944 hv172944 ov172944 => ?_)
        obtain ⟨b172945, rfl, mb172945, gb172945⟩ := okV_r ov172944
        have gb172945 : tag b172945 = 18 := tg_of gb172945
        refine t_get (C := RX1) (T := TX1) (N := 20) X hT mb172945 gb172945 rfl rfl 10 (by decide) qw_151 inlX1 rfl dX11_led_16 (fun v172946 hv172946 ov172946 => ?_)
        obtain ⟨z172947, rfl, rz172947⟩ := okV_i ov172946
        refine lv_icmp_ge (tgt := 53) hx hb dX11_led_19 (by decide) (fun c172948 => ?_) (fun c172948 => ?_)
        · have w172949 := cv_le (rfl : z172947.toInt = z172947.toInt) (rfl : z172934.toInt = z172934.toInt) c172948
          exact K53 z172933 z172934 z172940 _ _ _ (by omega) (by omega) hT hv172939 (lv_sub hl [0, 1, 2, 3] rfl)
        · have w172950 := cv_nle (rfl : z172947.toInt = z172947.toInt) (rfl : z172934.toInt = z172934.toInt) c172948
          refine lv_aload_n hx hb dX11_led_22 rfl (lv_at hl 0 rfl) ?_
          refine t_get (C := RX11) (T := TX11) (N := 16) X hT m0 g0 rfl rfl 3 (by decide) qw_18 inlX11 rfl dX11_led_23 (fun v172951 hv172951 ov172951 => ?_)
          obtain rfl : v172951 = .ref b172945 := hv172951.symm.trans hv172944
          refine lv_aload_n hx hb dX11_led_26 rfl (lv_at hl 0 rfl) ?_
          refine t_get (C := RX11) (T := TX11) (N := 16) X hT m0 g0 rfl rfl 5 (by decide) qw_23 inlX11 rfl dX11_led_27 (fun v172952 hv172952 ov172952 => ?_)
          obtain ⟨b172953, rfl, mb172953, gb172953⟩ := okV_r ov172952
          have gb172953 : tag b172953 = 19 := tg_of gb172953
          refine lv_iload_n hx hb dX11_led_30 rfl (lv_at hl 3 rfl) ?_
          refine t_cSi (n := 3) (As := [.ref b172945, .ref b172953, .int z172934]) (rest := []) X hT (kt381_X6_isShut l G tag L F hT.2.2.2 b172945 b172953 z172934 mb172945 gb172945 mb172953 gb172953 (by omega)) qw_774 qw_775 qw_380 qw_776 ⟨by decide +kernel, by decide +kernel, by decide +kernel⟩ ⟨Nat.le_of_ble_eq_true rfl, Nat.le_of_ble_eq_true rfl⟩ hl rfl rfl (Nat.le_of_ble_eq_true rfl) dX11_led_31 ⟨Nat.le_of_ble_eq_true rfl, Nat.le_of_ble_eq_true rfl⟩ (fun z172954 F9 H locs hT hz172954 => ?_)
          obtain ⟨fz172954, hz172954⟩ := hz172954
          rw [fz172954] at hT
          refine lv_if_eq (tgt := 47) hx hb dX11_led_34 (by decide) (fun c172955 => ?_) (fun c172955 => ?_)
          · have w172956 := cv_eq (rfl : z172954.toInt = z172954.toInt) (by decide : (0 : Int32).toInt = 0) c172955
            exact K47 z172933 z172940 _ _ _ (by omega) (by omega) hT hv172939 (lv_sub hl [0, 1, 2, 3] rfl)
          · have w172957 := cv_ne (rfl : z172954.toInt = z172954.toInt) (by decide : (0 : Int32).toInt = 0) c172955
            refine lv_iload_n hx hb dX11_led_37 rfl (lv_at hl 2 rfl) ?_
            refine lv_iload_n hx hb dX11_led_38 rfl (lv_at hl 1 rfl) ?_
            refine lv_icmp_ne (tgt := 44) hx hb dX11_led_39 (by decide) (fun c172958 => ?_) (fun c172958 => ?_)
            · have w172959 := cv_ne (rfl : z172933.toInt = z172933.toInt) (rfl : p1.toInt = p1.toInt) c172958
              obtain ⟨z172960, ez172960⟩ : ∃ y : Int32, y = z172933 + 1 := ⟨_, rfl⟩
              have rz172960 := rg_all z172960
              refine lv_iinc (v := z172960) (lv' := [(2, .int z172960), (0, .ref p0), (1, .int p1), (3, .int z172934)]) hx hb dX11_led_44 hl (k := 2) rfl (by rw [ez172960]; rfl) (by decide) rfl (fun ls hl => ?_)
              exact K47 z172960 z172940 _ _ _ (by omega) (by omega) hT hv172939 (lv_sub hl [1, 2, 0, 3] rfl)
            · have w172961 := cv_eq (rfl : z172933.toInt = z172933.toInt) (rfl : p1.toInt = p1.toInt) c172958
              refine lv_iload_n hx hb dX11_led_42 rfl (lv_at hl 3 rfl) ?_
              exact t_iretx hQ X hT rfl (Nat.le_of_ble_eq_true rfl) (Nat.le_of_ble_eq_true rfl) dX11_led_43
  refine lv_iconst (v := 0) hx hb dX11_led_0 (by decide) ?_
  refine lv_istore_n (lv' := [(2, .int 0), (0, .ref p0), (1, .int p1)]) hx hb dX11_led_1 rfl hl (by decide) rfl (fun ls hl => ?_)
  refine lv_iconst (v := 0) hx hb dX11_led_2 (by decide) ?_
  refine lv_istore_n (lv' := [(3, .int 0), (2, .int 0), (0, .ref p0), (1, .int p1)]) hx hb dX11_led_3 rfl hl (by decide) rfl (fun ls hl => ?_)
  have kk172962 : (0 : Int32).toInt = 0 := by decide
  have kk172963 : (0 : Int32).toInt = 0 := by decide
  exact K4 5 0 0 _ _ _ (by omega) (by decide) hT  (lv_sub hl [2, 3, 1, 0] rfl)
set_option maxHeartbeats 4000000 in
set_option maxRecDepth 100000 in
theorem kl_led (l : Launch) (hlt : l.stackTraces = false) (G : KG) (tag : Nat → Nat) (L : List Nat) (F : Nat → va_E) (ho : okT G ttC tag L F) (p0 : Nat) (p1 : Int32) (p2 : Nat) (m0 : p0 ∈ L) (g0 : tag p0 = 26) (m2 : p2 ∈ L) (g2 : tag p2 = 47) (sz : Nat) : Met l yL_led (.codeWith yL_led cL_led 4 (some .int) [(0, 9, 12, 13)] :: (wsL_law ++ VXG)) { frames := 7, cells := 1, slots := 6, locals := 124 } (va_Pc [.ref p0, .int p1, .ref p2] (PwX G (va_pl L F) sz)) (va_Qi (fun (r : Int32) (F1 : Nat → va_E) => okT G ttC tag L F1 ∧ (∀ b j : Nat, fld F1 b j = fld F b j) ∧ (∀ b j : Nat, elm F1 b j = elm F b j)) (fun F1 t => Bw G (va_A (va_pl L F) sz) (va_pl L F1) t) (va_A (va_pl L F) sz)) 1 6 (va_A (va_pl L F) sz) := by
  refine va_MetW (cc := cL_led) (maxL := 4) (ret := some .int) (hh := [(0, 9, 12, 13)]) (by decide) rfl ?_
  intro p e s m args below meth c s₁ B hml hv
  obtain ⟨rfl, ⟨hsz, hP, hK, hD0, hE⟩, hX9, hU, hN⟩ := hv
  have hts := atoms_spec (ws := .codeWith yL_led cL_led 4 (some .int) [(0, 9, 12, 13)] :: (wsL_law ++ VXG)) B.pre
  have htab : c.exceptionTable.toList = [⟨0, 9, 12, 13⟩] := vx_table (x := yL_led) B (hts _ List.mem_cons_self)
  have hown : s.vm.findClass RL = some m.cls := findClass_of_methodNamed B.named
  have X : CX p s m _ meth c cL_led 4 RL (some .int) G (va_A (va_pl L F) sz) (.codeWith yL_led cL_led 4 (some .int) [(0, 9, 12, 13)] :: (wsL_law ++ VXG)) := ⟨⟨B.exec, B.bytes, hml, hown, hts⟩, fun w h => List.mem_cons_of_mem _ (List.mem_append_left _ h), hK, hE, fun q h => Or.inr (hsz ▸ h), B.returns, B.notSynchronized⟩
  have hx := X.1.1
  have hb := X.1.2.1
  have hT : TH G ttC (va_A (va_pl L F) sz) s tag L F s.heap [] := ⟨hP, hD0.self, va_S.rf, ho⟩
  have hl := lv_entry [.ref p0, .int p1, .ref p2] (n := 4) (Nat.le_of_ble_eq_true rfl)
  rw [lg_entry_eq]
  generalize (lg_sl [.ref p0, .int p1, .ref p2] ++ List.replicate (4 - (lg_sl [.ref p0, .int p1, .ref p2]).length) Slot.unset).toArray = ls at hl ⊢
  have hl : lv_has ls 4 [(0, .ref p0), (1, .int p1), (2, .ref p2)] := hl
  refine lv_aload_n hx hb dL_led_0 rfl (lv_at hl 2 rfl) ?_
  refine lv_iconst (v := 0) hx hb dL_led_1 (by decide) ?_
  refine lv_aload_n hx hb dL_led_2 rfl (lv_at hl 0 rfl) ?_
  refine lv_iload_n hx hb dL_led_3 rfl (lv_at hl 1 rfl) ?_
  have hFc := th_all hT X.2.2.2.2.1
  obtain ⟨q0, hq⟩ := th_at hT m0
  obtain ⟨fs, hfs, -⟩ := th_obj hT m0 g0 rfl
  rw [hfs] at hq
  have hG : GoodIn (.codeWith yL_led cL_led 4 (some .int) [(0, 9, 12, 13)] :: (wsL_law ++ VXG)) (wsV RL 7 RX11 yX11_led (.code yX11_led cX11_led 4 (some .int) :: (wsL_law ++ VXG))) := gTX (fun w h => List.mem_cons_of_mem _ h) (fun w hw => by
    simp only [wsV, List.cons_append, List.nil_append, List.mem_cons] at hw
    rcases hw with rfl | rfl | rfl | rfl | rfl | hw
    · exact List.mem_append_left _ qw_1566
    · exact List.mem_append_left _ qw_1567
    · exact List.mem_append_left _ qw_1568
    · exact List.mem_append_left _ qw_2
    · exact List.mem_append_left _ qw_1569
    · exact hw)
  refine vx_calli (vx_runV (As := [.int p1]) (rest := [.int 0, .ref p2]) X.1 (kx_led l hlt G tag L F ho p0 p1 m0 g0 s.heap.size) (cwV 1 hts hG rfl rfl rfl ⟨rfl, by decide +kernel, by decide +kernel, by decide +kernel⟩ ⟨(Nat.le_of_ble_eq_true rfl), (Nat.le_of_ble_eq_true rfl)⟩) ⟨PwX_blind, va_recv (ci := 8) hK hT.1 rfl hq, fun U hU9 hW => ⟨rfl, (m_pre (U0 := s) (av := [.ref p0, .int p1]) X.2.2.1 X.2.2.2.1 hT.1 hT.2.1 hT.2.2.1 hFc U hU9 hW).2, EX.warm hW hX9, zq_pre hU hT.2.2.1 hFc hU9 hW, zq_pre hN hT.2.2.1 hFc hU9 hW⟩⟩ rfl rfl hl.1 rfl (lv_room (Nat.le_of_ble_eq_true rfl)) dL_led_4 ⟨(Nat.le_of_ble_eq_true rfl), (Nat.le_of_ble_eq_true rfl)⟩) hT.2.2.1 (fun q _ h => hFc q h) hFc (fun q _ h => hFc q h) (fun E ce q9 u t H1 locs1 ht hal hpx hBX hz hk hS1 hce hcv hcl => ?_) (fun r F1 t H1 locs1 ht hvm hw hB hz1 hk1 hS1 => ?_)
  · obtain ⟨rfl, hP1⟩ := hBX
    rw [ht] at hP1
    refine ca_catch (own := RL) (name := NSE) hown ⟨0, 9, 12, 13⟩ htab (by decide) (by decide) (hts _ (List.mem_cons_of_mem _ (List.mem_append_left _ qw_1565))) (hX9.hat (fun w h => hts w (List.mem_cons_of_mem _ (List.mem_append_right _ h))) (Cond.castable NSE NSE) (by decide +kernel)) hce hcv hcl ?_
    refine lv_astore_n (lv' := [(3, .ref q9), (0, .ref p0), (1, .int p1), (2, .ref p2)]) hx hb dL_led_12 rfl hl (by decide) rfl (fun ls hl => ?_)
    refine lv_iconst (v := 1) hx hb dL_led_13 (by decide) ?_
    refine W.widen (k := 1) (n := 6) (Nat.le_of_ble_eq_true rfl) (Nat.le_of_ble_eq_true rfl) ?_
    exact W.iret (v := 1) hx hb X.2.2.2.2.2.1 (fun t ht _ => ⟨⟨1, F, rfl, ⟨ho, fun _ _ => rfl, fun _ _ => rfl⟩, by rw [ht]; exact hP1, hT.2.1⟩, hS1.F ht⟩) hS1.2.2 dL_led_14 X.2.2.2.2.2.2
  · obtain ⟨hP1, hD1⟩ := hB
    rw [ht] at hP1
    have hT1 := th_back hT X.2.2.2.2.1 hP1 hD1 hS1 hw.1
    obtain rfl : F1 = F := hw.2
    refine lv_i2l hx hb dL_led_7 rfl ?_
    refine lv_topl (fun z ez => ?_)
    refine t_lst X hT1 m2 g2 rfl (by decide) dL_led_8 (fun F2 H2 locs2 hT2 h1 h2 => ?_)
    refine lv_goto (tgt := 15) hx hb dL_led_9 (by decide) ?_
    refine lv_iconst (v := 0) hx hb dL_led_15 (by decide) ?_
    refine W.widen (k := 1) (n := 6) (Nat.le_of_ble_eq_true rfl) (Nat.le_of_ble_eq_true rfl) ?_
    exact W.iret (v := 0) hx hb X.2.2.2.2.2.1 (fun t ht _ => ⟨⟨0, F2, rfl, ⟨hT2.2.2.2, fun b j => h2 b j, fun b j => h1 b j⟩, by rw [ht]; exact hT2.1, hT2.2.1⟩, hT2.2.2.1.F ht⟩) hT2.2.2.1.2.2 dL_led_16 X.2.2.2.2.2.2

