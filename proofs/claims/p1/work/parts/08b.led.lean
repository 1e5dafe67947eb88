section CA
theorem ca_go {e : Env} {S : State} {f : JFrame} {a : Addr} {x : ExceptionTableEntry} {cT : ClassId} {cell : Cell} (hx : covers x f.pc = true) (h0 : x.catchType ≠ 0) (hl : S.vm.ClassLinks e.platform f.method.cls x.catchType cT) (hcell : S.heap[a]? = some cell) (hobj : ∀ k, cell.vm ≠ .statics k) (hk1 : ∃ k, S.vm.classes[cell.cls]? = some k) (hk2 : ∃ k, S.vm.classes[cT]? = some k) (hfit : S.vm.assignable cell.cls cT = true) (Q : Handler → Pre) (E : CtlPost) (d : Bool) (acts : List Action) :
    wp (findHandler.go f a [x]) Q E e d acts S ↔ Q (.found x.handlerPc) d acts (S.setVm (S.vm.noted f.method.cls x.catchType (.cls cT))) := by
  have hal : S.vm.Alike (S.vm.noted f.method.cls x.catchType (.cls cT)) := Vm.Alike.noted (Vm.Alike.refl S.vm) _ _ _
  obtain ⟨w1, w2⟩ := (resolveClass_links e.toSetting hl).op (op := VmOp.resolveClass f.method.cls x.catchType) rfl
  obtain ⟨k1, g1⟩ := hk1
  obtain ⟨k2, g2⟩ := hk2
  obtain ⟨k3, g3, _⟩ := hal.2.2 _ _ g1
  obtain ⟨k4, g4, _⟩ := hal.2.2 _ _ g2
  have hfit2 : (S.vm.noted f.method.cls x.catchType (.cls cT)).assignable cell.cls cT = true := by rw [hal.assignable]; exact hfit
  have hx2 : (decide (x.startPc ≤ f.pc) && decide (f.pc < x.endPc)) = true := hx
  simp [findHandler.go, hx2, h0, w1, w2, hcell, hobj, g3, g4, hfit2, VmOp.dirties, VmOp.acts]
variable {p : Program} {l : Launch} {e : Env} {R : Room} {s : State} {m : MethodId} {args : Array Value} {below : List Frame} {meth : Method} {c : Code} {H : Heap} {locs : List Loc} {cells slots : Nat} {Q : State → Prop} {pc : Nat} {ls : Array Slot} {rest : List Value}
/-- the one row of the method's table takes what was thrown -/
theorem ca_catch {own name : String} {E : String} {ce : Cell} {q : Addr} (hown : s.vm.findClass own = some m.cls) (x : ExceptionTableEntry) (hone : c.exceptionTable.toList = [x]) (hx : covers x pc = true) (h0 : x.catchType ≠ 0)
    (hlink : (Cond.classLink own x.catchType name).before args s = true) (hcast : (Cond.castable E name).before args s = true) (hcell : H[q]? = some ce) (hv : ce.vm = .none) (hcl : s.vm.findClass E = some ce.cls)
    (kk : W p l e R s m args below meth c H locs cells slots Q (F0 m x.handlerPc ls [.ref q])) : vx_W p l e R s m args below meth c H locs cells slots Q (F0 m pc ls rest) q := by
  intro T hT X
  have hpl : e.platform.magicAccessors = ({} : Platform).magicAccessors := by rw [X.admits.platform]
  obtain ⟨cE, cN, hE, hN, hfit⟩ := Cond.castable_spec hcast
  cases Option.some.inj (hE.symm.trans hcl)
  obtain ⟨cT, hcT, hlk⟩ := Cond.classLink_spec hown hlink e.platform hpl
  cases Option.some.inj (hN.symm.trans hcT)
  have hlk2 := X.warmed.classLinks hlk
  obtain ⟨dk, _, _, kt, hd, _, _, _, _, hkt, _, hopen⟩ := hlk.here
  have hW2 : s.WarmedH (T.vm.noted m.cls x.catchType (.cls cN)) := X.warmed.noted hd hopen (State.rightAt_cls hlk)
  obtain ⟨t, st, hQ⟩ := kk (T.setVm (T.vm.noted m.cls x.catchType (.cls cN))) hT (X.noted hW2)
  refine ⟨t, ?_, hQ⟩
  have hal := X.warmed.alike
  obtain ⟨kt2, hkt2, _⟩ := hal.2.2 _ _ hkt
  have hfit2 : T.vm.assignable ce.cls cN = true := by rw [hal.assignable]; exact hfit
  have hf : ∀ (Q : Handler → Pre) (E : CtlPost) (d : Bool) (acts : List Action), wp (findHandler (F0 m pc ls rest) q) Q E e d acts ((T.setTop (F0 m pc ls rest)).pushFrame (.throwing q)) ↔ Q (.found x.handlerPc) d acts (((T.setTop (F0 m pc ls rest)).pushFrame (.throwing q)).setVm (T.vm.noted m.cls x.catchType (.cls cN))) := by
    intro Q E d acts
    rw [W.findHandler_eq (meth := meth) (code := c) X.method' X.code, hone]
    exact ca_go (S := (T.setTop (F0 m pc ls rest)).pushFrame (.throwing q)) (f := F0 m pc ls rest) hx h0 hlk2 (by rw [← hT] at hcell; exact hcell) (fun k => by rw [hv]; intro h; cases h) (Vm.classAt_of_assignable hfit2 ⟨kt2, hkt2⟩) ⟨kt2, hkt2⟩ hfit2 Q E d acts
  obtain ⟨hgo, hwi⟩ := At.throwing (g := F0 m pc ls rest) X.here q
  refine Steps.head hgo hwi ?_
  have hstep : (stepThrowing e ((T.setTop (F0 m pc ls rest)).pushFrame (.throwing q)) q (.java (F0 m pc ls rest) :: T.frames.tail)).Is ((((T.setTop (F0 m pc ls rest)).pushFrame (.throwing q)).setVm (T.vm.noted m.cls x.catchType (.cls cN))).setFrames (.java (F0 m x.handlerPc ls [.ref q]) :: T.frames.tail)) [] := by
    simp only [stepThrowing, searchFrame, vmDo]
    generalize hres : Sem.go _ e false [] ((T.setTop (F0 m pc ls rest)).pushFrame (.throwing q)) = res
    obtain ⟨as, rfl, ha⟩ := Sem.eq_ok_of hres (a := Handler.found x.handlerPc) (s' := ((T.setTop (F0 m pc ls rest)).pushFrame (.throwing q)).setVm (T.vm.noted m.cls x.catchType (.cls cN))) (acts' := []) (by simp [hf _ _ _ _])
    exact ⟨rfl, ha⟩
  rw [stepThread_throwing (frames_entered X.here.top _), hstep.1]
  obtain ⟨g0, hg0⟩ := Option.isSome_iff_exists.mp X.here.top
  obtain ⟨r, hr⟩ := State.topJava?_eq_some.mp hg0
  have hr2 : (T.setVm (T.vm.noted m.cls x.catchType (.cls cN))).frames = .java g0 :: r := hr
  rw [State.setTop_of_frames _ hr2] at st
  have e3 : (((T.setTop (F0 m pc ls rest)).pushFrame (.throwing q)).setVm (T.vm.noted m.cls x.catchType (.cls cN))).setFrames (.java (F0 m x.handlerPc ls [.ref q]) :: T.frames.tail) = (T.setVm (T.vm.noted m.cls x.catchType (.cls cN))).setFrames (.java (F0 m x.handlerPc ls [.ref q]) :: r) := by
    rw [hr, State.setTop_of_frames _ hr, State.pushFrame, State.setFrames_setFrames]
    show ((T.setVm (T.vm.noted m.cls x.catchType (.cls cN))).setFrames _).setFrames _ = _
    rw [State.setFrames_setFrames]
    rfl
  rw [e3]
  exact st
end CA

abbrev NSE : String := "java/util/NoSuchElementException"
def VXL : List Cond := vx_at0 RX11 340 NSE ["java/lang/RuntimeException", "java/lang/Exception"]
def VXG : List Cond := VXL.filter goodWord
def VXB : List Cond := VXL.filter (fun w => !goodWord w)
theorem VXG_in : ∀ w ∈ VXG, w ∈ lw_tbl := by decide +kernel
theorem VXB_in : ∀ w ∈ VXB, w ∈ lw_tbl := by decide +kernel
theorem VXB_ok : VXB.all (fun w => w.onTables && w.keepsFace) = true := by decide +kernel
theorem VXG_ok : VXG.all goodWord = true := by decide +kernel
theorem VXL_ot : ∀ w ∈ Cond.classLink RX11 338 NSE :: Cond.initialized NSE :: VXL, vx_ot w = true := by decide +kernel
def EX (U : State) : Prop := ∀ w ∈ VXB, va_Nw w U
theorem VXB_at {w : Cond} (h : w ∈ VXB) : w.onTables = true ∧ w.keepsFace = true := by
  have h1 := List.all_eq_true.mp VXB_ok w h
  simpa using h1
theorem EX.warm {s U : State} (hW : s.WarmedH U.vm) (h : EX s) : EX U := fun w hw => va_tabs (VXB_at hw).1 (rfl : (s.setVm U.vm).vm = U.vm) (Cond.before_shiftedFace (State.Shifted.of_warmed hW) w (VXB_at hw).2 (h w hw))
theorem EX.same {u U : State} (hv : u.vm = U.vm) (h : EX u) : EX U := fun w hw => va_tabs (VXB_at hw).1 hv (h w hw)
theorem EX.of {s : State} {args : Array Value} (hts : ∀ w ∈ lw_tbl, w.before args s = true) : EX s := fun w hw => va_Nw.of (VXB_at hw).1 (hts w (VXB_in w hw))
theorem EX.hat {s : State} {args : Array Value} (h : EX s) (h1 : ∀ w ∈ VXG, w.before args s = true) : ∀ w ∈ VXL, w.before args s = true := vx_hat (B := VXB) h1 (fun _ h => h) (fun w hw => va_Nw.use (VXB_at hw).1 (h w hw))
theorem zq_pre {C n d : String} {A B : Nat → Prop} {s U : State} {H : Heap} {locs : List Loc} (h : vx_Zq C n d A s s.heap) (hS : va_S A s.heap H locs) (hAB : ∀ q, B q → A q) (hU : U.heap = H) (hW : s.WarmedH U.vm) : vx_Zq C n d B U U.heap := by
  rw [hU]
  exact ((h.kept hS.2.1).narrow hAB).moved hW.alike
def PwX (G : KG) (ws : va_W) (sz : Nat) (U : State) : Prop := Pw G ws sz U ∧ EX U ∧ vx_Zq Bundle.tN "UNASSIGNED_STACK" Bundle.steD (va_A ws sz) U U.heap ∧ vx_Zq Bundle.tN "SUPPRESSED_SENTINEL" Bundle.listD (va_A ws sz) U U.heap
theorem PwX_blind {G : KG} {av : List Value} {ws : va_W} {sz : Nat} : FrameBlind (va_Pc av (PwX G ws sz)) := fun a U g mk h => ⟨h.1, (Pw_blind (av := av) a U g mk ⟨h.1, h.2.1⟩).2, EX.same (u := U) rfl h.2.2.1, vx_Zq.moved (u := U) (U := U.calling g mk a) (Vm.Alike.refl U.vm) h.2.2.2.1, vx_Zq.moved (u := U) (U := U.calling g mk a) (Vm.Alike.refl U.vm) h.2.2.2.2⟩
theorem gTX {Ts ws : List Cond} (hT : ∀ w ∈ wsL_law ++ VXG, w ∈ Ts) (h : ∀ w ∈ ws, w ∈ wsL_law ++ VXG) : GoodIn Ts ws := fun w hw => ⟨hT w (h w hw), by
  rcases List.mem_append.mp (h w hw) with h1 | h1
  · exact good_of_word (List.all_eq_true.mp gWL w h1)
  · exact good_of_word (List.all_eq_true.mp VXG_ok w h1)⟩

set_option maxHeartbeats 4000000 in
set_option maxRecDepth 100000 in
theorem kx_led (l : Launch) (hlt : l.stackTraces = false) (G : KG) (a0 : Nat) (i0 : Int32) (a1 : Nat) (a2 : Nat) (a3 : Nat) (a4 : Nat) (a5 : Nat) (a6 : Nat) (a7 : Nat) (a8 : Nat) (a9 : Nat) (a10 : Nat) (a11 : Nat) (sz : Nat) : vx_Met l yX11_led (.code yX11_led cX11_led 4 (some .int) :: (wsL_law ++ VXG)) { frames := 6, cells := 1, slots := 6, locals := 100 } (va_Pc [.ref a0, .int i0] (PwX G [(a0, .inr (8, [.ref a1, .int 0, .int 0, .ref a2, .ref a3, .ref a4, .ref a5, .ref a6, .ref a7, .ref a8, .ref a9, .ref a10, .ref a11, .int 0, .int 0, .int 0]))] sz)) (va_Qi (fun _ (_ : KS) => False) (fun _ _ => True) (va_A [(a0, .inr (8, [.ref a1, .int 0, .int 0, .ref a2, .ref a3, .ref a4, .ref a5, .ref a6, .ref a7, .ref a8, .ref a9, .ref a10, .ref a11, .int 0, .int 0, .int 0]))] sz)) (vx_X (fun (_ : Unit) => True) (fun E _ _ => E = NSE) (va_A [(a0, .inr (8, [.ref a1, .int 0, .int 0, .ref a2, .ref a3, .ref a4, .ref a5, .ref a6, .ref a7, .ref a8, .ref a9, .ref a10, .ref a11, .int 0, .int 0, .int 0]))] sz)) 1 6 (va_A [(a0, .inr (8, [.ref a1, .int 0, .int 0, .ref a2, .ref a3, .ref a4, .ref a5, .ref a6, .ref a7, .ref a8, .ref a9, .ref a10, .ref a11, .int 0, .int 0, .int 0]))] sz) := by
  refine vx_ofW (cc := cX11_led) (maxL := 4) (ret := some .int) (by decide) rfl ?_
  intro p e s m args below meth c s₁ B hml htab hv
  obtain ⟨rfl, ⟨hsz, hP, hK, hD0, hE⟩, hX9, hU, hN⟩ := hv
  have hts := atoms_spec (ws := .code yX11_led cX11_led 4 (some .int) :: (wsL_law ++ VXG)) B.pre
  have hown : s.vm.findClass RX11 = some m.cls := findClass_of_methodNamed B.named
  have X : CX p s m _ meth c cX11_led 4 RX11 (some .int) G (va_A [(a0, .inr (8, [.ref a1, .int 0, .int 0, .ref a2, .ref a3, .ref a4, .ref a5, .ref a6, .ref a7, .ref a8, .ref a9, .ref a10, .ref a11, .int 0, .int 0, .int 0]))] sz) (.code yX11_led cX11_led 4 (some .int) :: (wsL_law ++ VXG)) := ⟨⟨B.exec, B.bytes, hml, hown, hts⟩, fun w h => List.mem_cons_of_mem _ (List.mem_append_left _ h), hK, hE, fun q h => Or.inr (hsz ▸ h), B.returns, B.notSynchronized⟩
  have hx := X.1.1
  have hb := X.1.2.1
  have hS : va_S (va_A [(a0, .inr (8, [.ref a1, .int 0, .int 0, .ref a2, .ref a3, .ref a4, .ref a5, .ref a6, .ref a7, .ref a8, .ref a9, .ref a10, .ref a11, .int 0, .int 0, .int 0]))] sz) s.heap s.heap [] := va_S.rf
  have hl := lv_entry [.ref a0, .int i0] (n := 4) (Nat.le_of_ble_eq_true rfl)
  rw [lg_entry_eq]
  generalize (lg_sl [.ref a0, .int i0] ++ List.replicate (4 - (lg_sl [.ref a0, .int i0]).length) Slot.unset).toArray = ls at hl ⊢
  have hl : lv_has ls 4 [(0, .ref a0), (1, .int i0)] := hl
  refine lv_iconst (v := 0) hx hb dX11_led_0 (by decide) ?_
  refine lv_istore_n (lv' := [(2, .int 0), (0, .ref a0), (1, .int i0)]) hx hb dX11_led_1 rfl hl (by decide) rfl (fun ls hl => ?_)
  refine lv_iconst (v := 0) hx hb dX11_led_2 (by decide) ?_
  refine lv_istore_n (lv' := [(3, .int 0), (2, .int 0), (0, .ref a0), (1, .int i0)]) hx hb dX11_led_3 rfl hl (by decide) rfl (fun ls hl => ?_)
  refine lv_aload_n hx hb dX11_led_4 rfl (lv_at hl 2 rfl) ?_
  refine m_get (C := RX11) (T := TX11) (N := 16) (ci := 8) (v := .int 0) X hP 0 rfl rfl 2 (by decide) qw_150 inlX11 rfl dX11_led_5 ?_
  refine lv_if_eq (tgt := 53) hx hb dX11_led_8 (by decide) (fun _ => ?_) (fun c9 => absurd c9 (by decide))
  exact vx_throw0 (own := RX11) (cls := NSE) (names := ["java/lang/RuntimeException", "java/lang/Exception"]) (ik := 338) (ic := 340) (A := va_A [(a0, .inr (8, [.ref a1, .int 0, .int 0, .ref a2, .ref a3, .ref a4, .ref a5, .ref a6, .ref a7, .ref a8, .ref a9, .ref a10, .ref a11, .int 0, .int 0, .int 0]))] sz) hx hb hlt hown (by decide +kernel) (by decide +kernel) (hts _ (List.mem_cons_of_mem _ (List.mem_append_left _ qw_1570))) (hts _ (List.mem_cons_of_mem _ (List.mem_append_left _ qw_1571))) (hX9.hat (fun w h => hts w (List.mem_cons_of_mem _ (List.mem_append_right _ h)))) VXL_ot hU hN hS (hl.1.trans hml.symm) dX11_led_53 dX11_led_56 dX11_led_57 dX11_led_60 (fun x hx => (htab x hx).elim) (Nat.le_of_ble_eq_true rfl) (Nat.le_of_ble_eq_true rfl) (Nat.le_of_ble_eq_true rfl) (Nat.le_of_ble_eq_true rfl) X.2.2.2.2.2.2 (fun t _ h1 h2 => ⟨(), trivial, rfl, h1, fun q h3 _ => h2 q h3⟩) (fun _ h => nomatch h) (Nat.le_of_ble_eq_true rfl) (Nat.le_of_ble_eq_true rfl)

set_option maxHeartbeats 4000000 in
set_option maxRecDepth 100000 in
theorem kl_led (l : Launch) (hlt : l.stackTraces = false) (G : KG) (a0 : Nat) (i0 : Int32) (a1 : Nat) (a2 : Nat) (a3 : Nat) (a4 : Nat) (a5 : Nat) (a6 : Nat) (a7 : Nat) (a8 : Nat) (a9 : Nat) (a10 : Nat) (a11 : Nat) (o0 : Nat) (sz : Nat) : Met l yL_led (.codeWith yL_led cL_led 4 (some .int) [(0, 9, 12, 13)] :: (wsL_law ++ VXG)) { frames := 7, cells := 1, slots := 6, locals := 130 } (va_Pc [.ref a0, .int i0, .ref o0] (PwX G [(a0, .inr (8, [.ref a1, .int 0, .int 0, .ref a2, .ref a3, .ref a4, .ref a5, .ref a6, .ref a7, .ref a8, .ref a9, .ref a10, .ref a11, .int 0, .int 0, .int 0]))] sz)) (va_Qi (fun r (_ : KS) => r = 1) (fun _ _ => True) (va_A [(a0, .inr (8, [.ref a1, .int 0, .int 0, .ref a2, .ref a3, .ref a4, .ref a5, .ref a6, .ref a7, .ref a8, .ref a9, .ref a10, .ref a11, .int 0, .int 0, .int 0]))] sz)) 1 6 (va_A [(a0, .inr (8, [.ref a1, .int 0, .int 0, .ref a2, .ref a3, .ref a4, .ref a5, .ref a6, .ref a7, .ref a8, .ref a9, .ref a10, .ref a11, .int 0, .int 0, .int 0]))] sz) := by
  refine va_MetW (cc := cL_led) (maxL := 4) (ret := some .int) (hh := [(0, 9, 12, 13)]) (by decide) rfl ?_
  intro p e s m args below meth c s₁ B hml hv
  obtain ⟨rfl, ⟨hsz, hP, hK, hD0, hE⟩, hX9, hU, hN⟩ := hv
  have hts := atoms_spec (ws := .codeWith yL_led cL_led 4 (some .int) [(0, 9, 12, 13)] :: (wsL_law ++ VXG)) B.pre
  have htab : c.exceptionTable.toList = [⟨0, 9, 12, 13⟩] := vx_table (x := yL_led) B (hts _ List.mem_cons_self)
  have hown : s.vm.findClass RL = some m.cls := findClass_of_methodNamed B.named
  have X : CX p s m _ meth c cL_led 4 RL (some .int) G (va_A [(a0, .inr (8, [.ref a1, .int 0, .int 0, .ref a2, .ref a3, .ref a4, .ref a5, .ref a6, .ref a7, .ref a8, .ref a9, .ref a10, .ref a11, .int 0, .int 0, .int 0]))] sz) (.codeWith yL_led cL_led 4 (some .int) [(0, 9, 12, 13)] :: (wsL_law ++ VXG)) := ⟨⟨B.exec, B.bytes, hml, hown, hts⟩, fun w h => List.mem_cons_of_mem _ (List.mem_append_left _ h), hK, hE, fun q h => Or.inr (hsz ▸ h), B.returns, B.notSynchronized⟩
  have hx := X.1.1
  have hb := X.1.2.1
  have hS : va_S (va_A [(a0, .inr (8, [.ref a1, .int 0, .int 0, .ref a2, .ref a3, .ref a4, .ref a5, .ref a6, .ref a7, .ref a8, .ref a9, .ref a10, .ref a11, .int 0, .int 0, .int 0]))] sz) s.heap s.heap [] := va_S.rf
  have hD : va_D (va_A [(a0, .inr (8, [.ref a1, .int 0, .int 0, .ref a2, .ref a3, .ref a4, .ref a5, .ref a6, .ref a7, .ref a8, .ref a9, .ref a10, .ref a11, .int 0, .int 0, .int 0]))] sz) [(a0, .inr (8, [.ref a1, .int 0, .int 0, .ref a2, .ref a3, .ref a4, .ref a5, .ref a6, .ref a7, .ref a8, .ref a9, .ref a10, .ref a11, .int 0, .int 0, .int 0]))] := hD0.self
  have hl := lv_entry [.ref a0, .int i0, .ref o0] (n := 4) (Nat.le_of_ble_eq_true rfl)
  rw [lg_entry_eq]
  generalize (lg_sl [.ref a0, .int i0, .ref o0] ++ List.replicate (4 - (lg_sl [.ref a0, .int i0, .ref o0]).length) Slot.unset).toArray = ls at hl ⊢
  have hl : lv_has ls 4 [(0, .ref a0), (1, .int i0), (2, .ref o0)] := hl
  refine lv_aload_n hx hb dL_led_0 rfl (lv_at hl 2 rfl) ?_
  refine lv_iconst (v := 0) hx hb dL_led_1 (by decide) ?_
  refine lv_aload_n hx hb dL_led_2 rfl (lv_at hl 0 rfl) ?_
  refine lv_iload_n hx hb dL_led_3 rfl (lv_at hl 1 rfl) ?_
  have hFc := va_free (wc := [(a0, .inr (8, [.ref a1, .int 0, .int 0, .ref a2, .ref a3, .ref a4, .ref a5, .ref a6, .ref a7, .ref a8, .ref a9, .ref a10, .ref a11, .int 0, .int 0, .int 0]))]) hD hS X.2.2.2.2.1 [0] rfl
  have hG : GoodIn (.codeWith yL_led cL_led 4 (some .int) [(0, 9, 12, 13)] :: (wsL_law ++ VXG)) (wsV RL 7 RX11 yX11_led (.code yX11_led cX11_led 4 (some .int) :: (wsL_law ++ VXG))) := gTX (fun w h => List.mem_cons_of_mem _ h) (fun w hw => by
    simp only [wsV, List.cons_append, List.nil_append, List.mem_cons] at hw
    rcases hw with rfl | rfl | rfl | rfl | rfl | hw
    · exact List.mem_append_left _ qw_1566
    · exact List.mem_append_left _ qw_1567
    · exact List.mem_append_left _ qw_1568
    · exact List.mem_append_left _ qw_2
    · exact List.mem_append_left _ qw_1569
    · exact hw)
  refine vx_calli (vx_runV (As := [.int i0]) (rest := [.int 0, .ref o0]) X.1 (kx_led l hlt G a0 i0 a1 a2 a3 a4 a5 a6 a7 a8 a9 a10 a11 s.heap.size) (cwV 1 hts hG rfl rfl rfl ⟨rfl, by decide +kernel, by decide +kernel, by decide +kernel⟩ ⟨Nat.le_of_ble_eq_true rfl, Nat.le_of_ble_eq_true rfl⟩) ⟨PwX_blind, va_recv hK hP (ci := 8) (q0 := 0) rfl rfl, fun U hU9 hW => ⟨rfl, (m_pre (U0 := s) (A := va_A [(a0, .inr (8, [.ref a1, .int 0, .int 0, .ref a2, .ref a3, .ref a4, .ref a5, .ref a6, .ref a7, .ref a8, .ref a9, .ref a10, .ref a11, .int 0, .int 0, .int 0]))] sz) (av := [.ref a0, .int i0]) hK hE hP hD U hU9 hW).2, EX.warm hW hX9, zq_pre hU hS hFc hU9 hW, zq_pre hN hS hFc hU9 hW⟩⟩ rfl rfl hl.1 rfl (lv_room (Nat.le_of_ble_eq_true rfl)) dL_led_4 ⟨Nat.le_of_ble_eq_true rfl, Nat.le_of_ble_eq_true rfl⟩) hS (fun q _ h => hFc q h) hFc (fun q _ h => hFc q h) (fun E ce q9 u t H1 locs1 ht hal hpx hBX hz hk hS1 hce hcv hcl => ?_) (fun r u t H1 locs1 _ _ hw _ _ _ _ => hw.elim)
  obtain rfl : E = NSE := hBX
  refine ca_catch (own := RL) (name := NSE) hown ⟨0, 9, 12, 13⟩ htab (by decide) (by decide) (hts _ (List.mem_cons_of_mem _ (List.mem_append_left _ qw_1565))) (hX9.hat (fun w h => hts w (List.mem_cons_of_mem _ (List.mem_append_right _ h))) (Cond.castable NSE NSE) (by decide +kernel)) hce hcv hcl ?_
  refine lv_astore_n (lv' := [(3, .ref q9), (0, .ref a0), (1, .int i0), (2, .ref o0)]) hx hb dL_led_12 rfl hl (by decide) rfl (fun ls hl => ?_)
  refine lv_iconst (v := 1) hx hb dL_led_13 (by decide) ?_
  refine W.widen (k := 1) (n := 6) (Nat.le_of_ble_eq_true rfl) (Nat.le_of_ble_eq_true rfl) ?_
  exact W.iret (v := 1) hx hb X.2.2.2.2.2.1 (fun t ht _ => ⟨⟨1, ((fun _ => 0), (fun _ _ => 0)), rfl, rfl, trivial⟩, hS1.F ht⟩) hS1.2.2 dL_led_14 X.2.2.2.2.2.2

set_option maxHeartbeats 4000000 in
set_option maxRecDepth 100000 in
theorem law_c46 {p : Program} {e : Env} {s : State} {m : MethodId} {below : List Frame} {meth : Method} {c : Code} (l : Launch) (G : KG) (b : Nat) (xs : Nat → Int32) (x0 m0 o0 : Nat) (u1 : KS) (u2 : KS) (hlt : l.stackTraces = false) (hEX : EX s) (hU : vx_Zq Bundle.tN "UNASSIGNED_STACK" Bundle.steD (fun q : Nat => s.heap.size ≤ q) s s.heap) (hN : vx_Zq Bundle.tN "SUPPRESSED_SENTINEL" Bundle.listD (fun q : Nat => s.heap.size ≤ q) s s.heap) (X : CX p s m #[Value.ref b] meth c cL_law 7 RL ret G (fun q : Nat => s.heap.size ≤ q) lw_tbl) (hX : va_X b 6 xs s s.heap) (hbl : b < s.heap.size) {H : Heap} {locs : List Loc} {ls : Array Slot} (hP : va_P G.1 vwCl [(x0, .inr (8, [.ref (u1.1 0), .int 0, .int 0, .ref (u1.1 1), .ref (u1.1 2), .ref (u1.1 3), .ref (u1.1 4), .ref (u1.1 5), .ref (u1.1 6), .ref (u1.1 7), .ref (u1.1 8), .ref (u1.1 9), .ref (u1.1 10), .int 0, .int 0, .int 0])), ((u1.1 0), .inl (G.2 0, 1000, .inl (fun _ => 0))), ((u1.1 6), .inr (3, [.ref (u1.1 11), .null, .null, .int 0, .int 0, .int 0, .int 0, .int 0, .int 0, .ref (u1.1 12), .ref (u1.1 13), .ref (u1.1 14), .int 0])), ((u1.1 11), .inr (5, [.null, .int 0, .int 0, .int 0, .int 0, .int 0, .int 0, .long 0])), ((u1.1 2), .inr (1, [.int 0, .int 0, .int 0, .int 0, .int 0, .int 0, .int 0, .ref (u1.1 15), .int 0, .ref (u1.1 16), .int 0, .ref (u1.1 17), .ref (u1.1 18), .ref (u1.1 19), .int 0, .ref (u1.1 20), .int 0, .ref (u1.1 21), .ref (u1.1 22), .ref (u1.1 23)])), ((u1.1 15), .inl (G.2 1, 144, .inl (fun _ => 0))), ((u1.1 21), .inl (G.2 0, 6, .inl (fun _ => 0))), ((u1.1 22), .inl (G.2 0, 6, .inl (fun _ => 0))), ((u1.1 23), .inl (G.2 0, 6, .inl (fun _ => 0))), ((u1.1 4), .inr (4, [.int 0, .int 0, .ref (u1.1 24), .ref (u1.1 25), .ref (u1.1 26), .ref (u1.1 27), .ref (u1.1 28)])), ((u1.1 24), .inl (G.2 0, 4, .inl (fun _ => 0))), ((u1.1 10), .inr (2, [.ref (u1.1 29), .ref (u1.1 30), .int 0, .int 0, .int 0])), (m0, .inr (10, [.int 0, .int 0, .int (-1), .null, .null, .ref (u2.1 0), .int 0, .int 0, .int 0, .int 0, .int 0, .int 0, .int 0, .int 0, .int 0, .long 0, .ref (u2.1 1), .ref (u2.1 2), .ref (u2.1 3), .ref (u2.1 4), .int 0, .int 0, .int 0, .int 0, .ref (u2.1 5), .ref (u2.1 6), .ref (u2.1 7), .ref (u2.1 8), .int 0, .ref (u2.1 9), .ref (u2.1 10), .ref (u2.1 11), .ref (u2.1 12), .ref (u2.1 13), .ref (u2.1 14), .ref (u2.1 15), .int 0])), ((u2.1 0), .inl (G.2 3, 1000, .inl (fun _ => 0))), (o0, .inl (G.2 2, 1, .inr (.inl (fun _ => 0))))] H) (hD : va_D (fun q : Nat => s.heap.size ≤ q) [(x0, .inr (8, [.ref (u1.1 0), .int 0, .int 0, .ref (u1.1 1), .ref (u1.1 2), .ref (u1.1 3), .ref (u1.1 4), .ref (u1.1 5), .ref (u1.1 6), .ref (u1.1 7), .ref (u1.1 8), .ref (u1.1 9), .ref (u1.1 10), .int 0, .int 0, .int 0])), ((u1.1 0), .inl (G.2 0, 1000, .inl (fun _ => 0))), ((u1.1 6), .inr (3, [.ref (u1.1 11), .null, .null, .int 0, .int 0, .int 0, .int 0, .int 0, .int 0, .ref (u1.1 12), .ref (u1.1 13), .ref (u1.1 14), .int 0])), ((u1.1 11), .inr (5, [.null, .int 0, .int 0, .int 0, .int 0, .int 0, .int 0, .long 0])), ((u1.1 2), .inr (1, [.int 0, .int 0, .int 0, .int 0, .int 0, .int 0, .int 0, .ref (u1.1 15), .int 0, .ref (u1.1 16), .int 0, .ref (u1.1 17), .ref (u1.1 18), .ref (u1.1 19), .int 0, .ref (u1.1 20), .int 0, .ref (u1.1 21), .ref (u1.1 22), .ref (u1.1 23)])), ((u1.1 15), .inl (G.2 1, 144, .inl (fun _ => 0))), ((u1.1 21), .inl (G.2 0, 6, .inl (fun _ => 0))), ((u1.1 22), .inl (G.2 0, 6, .inl (fun _ => 0))), ((u1.1 23), .inl (G.2 0, 6, .inl (fun _ => 0))), ((u1.1 4), .inr (4, [.int 0, .int 0, .ref (u1.1 24), .ref (u1.1 25), .ref (u1.1 26), .ref (u1.1 27), .ref (u1.1 28)])), ((u1.1 24), .inl (G.2 0, 4, .inl (fun _ => 0))), ((u1.1 10), .inr (2, [.ref (u1.1 29), .ref (u1.1 30), .int 0, .int 0, .int 0])), (m0, .inr (10, [.int 0, .int 0, .int (-1), .null, .null, .ref (u2.1 0), .int 0, .int 0, .int 0, .int 0, .int 0, .int 0, .int 0, .int 0, .int 0, .long 0, .ref (u2.1 1), .ref (u2.1 2), .ref (u2.1 3), .ref (u2.1 4), .int 0, .int 0, .int 0, .int 0, .ref (u2.1 5), .ref (u2.1 6), .ref (u2.1 7), .ref (u2.1 8), .int 0, .ref (u2.1 9), .ref (u2.1 10), .ref (u2.1 11), .ref (u2.1 12), .ref (u2.1 13), .ref (u2.1 14), .ref (u2.1 15), .int 0])), ((u2.1 0), .inl (G.2 3, 1000, .inl (fun _ => 0))), (o0, .inl (G.2 2, 1, .inr (.inl (fun _ => 0))))]) (hS : va_S (fun q : Nat => s.heap.size ≤ q) s.heap H locs) (hl : lv_has ls 7 [(4, .int 0), (3, .ref o0), (2, .ref m0), (1, .ref x0), (0, .ref b)]) : W p l e room_1 s m #[Value.ref b] below meth c H locs 156 9535 (lw_Z below #[Value.ref b] s) (F0 m 1762 ls []) := by
  have hx := X.1.1
  have hb := X.1.2.1
  have hbA : ¬ (fun q : Nat => s.heap.size ≤ q) b := Nat.not_le.mpr hbl
  refine lv_aload_n hx hb dL_law_1762 rfl (lv_at hl 3 rfl) ?_
  refine lv_aload_n hx hb dL_law_1763 rfl (lv_at hl 4 rfl) ?_
  refine lv_iload hx hb dL_law_1764 (lv_at hl 0 rfl) ?_
  refine lv_iconst (v := 1) hx hb dL_law_1766 (by decide) ?_
  refine lv_iadd hx hb dL_law_1767 ?_
  refine lv_topi (fun z1030 ez1030 => ?_)
  obtain rfl : z1030 = 1 := ez1030.trans (by decide)
  refine va_sld hx hb hX hbl hbA hS (vin (by decide)) dL_law_1768 ?_
  refine lv_topi (fun v1031 ev1031 => ?_)
  refine lv_aload_n hx hb dL_law_1769 rfl (lv_at hl 1 rfl) ?_
  have hFc := va_free (wc := [(x0, .inr (8, [.ref (u1.1 0), .int 0, .int 0, .ref (u1.1 1), .ref (u1.1 2), .ref (u1.1 3), .ref (u1.1 4), .ref (u1.1 5), .ref (u1.1 6), .ref (u1.1 7), .ref (u1.1 8), .ref (u1.1 9), .ref (u1.1 10), .int 0, .int 0, .int 0]))]) hD hS X.2.2.2.2.1 [0] rfl
  have hPc := hP.sub (ws' := [(x0, .inr (8, [.ref (u1.1 0), .int 0, .int 0, .ref (u1.1 1), .ref (u1.1 2), .ref (u1.1 3), .ref (u1.1 4), .ref (u1.1 5), .ref (u1.1 6), .ref (u1.1 7), .ref (u1.1 8), .ref (u1.1 9), .ref (u1.1 10), .int 0, .int 0, .int 0]))]) [0] rfl
  have hDc := hD.sub (ws' := [(x0, .inr (8, [.ref (u1.1 0), .int 0, .int 0, .ref (u1.1 1), .ref (u1.1 2), .ref (u1.1 3), .ref (u1.1 4), .ref (u1.1 5), .ref (u1.1 6), .ref (u1.1 7), .ref (u1.1 8), .ref (u1.1 9), .ref (u1.1 10), .int 0, .int 0, .int 0]))]) [0] (by decide) rfl
  have hG : GoodIn lw_tbl (va_wsS RL 211 yL_led (.codeWith yL_led cL_led 4 (some .int) [(0, 9, 12, 13)] :: (wsL_law ++ VXG))) := gTX (fun w h => (List.mem_append.mp h).elim (wsL_law_in w) (VXG_in w)) (fun w hw => by
    simp only [va_wsS, List.cons_append, List.nil_append, List.mem_cons] at hw
    rcases hw with rfl | rfl | rfl | rfl | hw
    · exact List.mem_append_left _ qw_1561
    · exact List.mem_append_left _ qw_1562
    · exact List.mem_append_left _ qw_1563
    · exact List.mem_append_left _ qw_1564
    · exact hw)
  refine va_calli (vx_runSW (As := [.ref x0, .int v1031, .ref o0]) (rest := []) X.1 (kl_led l hlt G x0 v1031 (u1.1 0) (u1.1 1) (u1.1 2) (u1.1 3) (u1.1 4) (u1.1 5) (u1.1 6) (u1.1 7) (u1.1 8) (u1.1 9) (u1.1 10) o0 H.size) (vx_cwSW 3 X.1.2.2.2.2 hG rfl rfl rfl ⟨by decide +kernel, by decide +kernel, by decide +kernel⟩ ⟨Nat.le_of_ble_eq_true rfl, Nat.le_of_ble_eq_true rfl⟩) ⟨PwX_blind, fun U hU9 hW => ⟨rfl, (m_pre (U0 := s) (A := (fun q : Nat => s.heap.size ≤ q)) (av := [.ref x0, .int v1031, .ref o0]) X.2.2.1 X.2.2.2.1 hPc hDc U hU9 hW).2, EX.warm hW hEX, zq_pre hU hS hFc hU9 hW, zq_pre hN hS hFc hU9 hW⟩⟩ rfl rfl hl.1 rfl (lv_room (Nat.le_of_ble_eq_true rfl)) dL_law_1770 ⟨Nat.le_of_ble_eq_true rfl, Nat.le_of_ble_eq_true rfl⟩) hS (fun q _ h => hFc q h) hFc (fun r9 u t H1 locs ht hvm hw hB hz1 hk1 hS => ?_)
  obtain ⟨hP, hD⟩ := va_join (wr := [((u1.1 0), .inl (G.2 0, 1000, .inl (fun _ => 0))), ((u1.1 6), .inr (3, [.ref (u1.1 11), .null, .null, .int 0, .int 0, .int 0, .int 0, .int 0, .int 0, .ref (u1.1 12), .ref (u1.1 13), .ref (u1.1 14), .int 0])), ((u1.1 11), .inr (5, [.null, .int 0, .int 0, .int 0, .int 0, .int 0, .int 0, .long 0])), ((u1.1 2), .inr (1, [.int 0, .int 0, .int 0, .int 0, .int 0, .int 0, .int 0, .ref (u1.1 15), .int 0, .ref (u1.1 16), .int 0, .ref (u1.1 17), .ref (u1.1 18), .ref (u1.1 19), .int 0, .ref (u1.1 20), .int 0, .ref (u1.1 21), .ref (u1.1 22), .ref (u1.1 23)])), ((u1.1 15), .inl (G.2 1, 144, .inl (fun _ => 0))), ((u1.1 21), .inl (G.2 0, 6, .inl (fun _ => 0))), ((u1.1 22), .inl (G.2 0, 6, .inl (fun _ => 0))), ((u1.1 23), .inl (G.2 0, 6, .inl (fun _ => 0))), ((u1.1 4), .inr (4, [.int 0, .int 0, .ref (u1.1 24), .ref (u1.1 25), .ref (u1.1 26), .ref (u1.1 27), .ref (u1.1 28)])), ((u1.1 24), .inl (G.2 0, 4, .inl (fun _ => 0))), ((u1.1 10), .inr (2, [.ref (u1.1 29), .ref (u1.1 30), .int 0, .int 0, .int 0])), (m0, .inr (10, [.int 0, .int 0, .int (-1), .null, .null, .ref (u2.1 0), .int 0, .int 0, .int 0, .int 0, .int 0, .int 0, .int 0, .int 0, .int 0, .long 0, .ref (u2.1 1), .ref (u2.1 2), .ref (u2.1 3), .ref (u2.1 4), .int 0, .int 0, .int 0, .int 0, .ref (u2.1 5), .ref (u2.1 6), .ref (u2.1 7), .ref (u2.1 8), .int 0, .ref (u2.1 9), .ref (u2.1 10), .ref (u2.1 11), .ref (u2.1 12), .ref (u2.1 13), .ref (u2.1 14), .ref (u2.1 15), .int 0])), ((u2.1 0), .inl (G.2 3, 1000, .inl (fun _ => 0))), (o0, .inl (G.2 2, 1, .inr (.inl (fun _ => 0))))]) (w1 := []) hP hD [0] [1, 2, 3, 4, 5, 6, 7, 8, 9, 10, 11, 12, 13, 14] rfl rfl (by decide) (by decide) hk1 hFc (fun k q h => by simp at h) ⟨fun i j p q h => by simp at h, fun k q h => by simp at h⟩
  generalize H1 = H at hP hS ⊢
  have hP : va_P G.1 vwCl [((u1.1 0), .inl (G.2 0, 1000, .inl (fun _ => 0))), ((u1.1 6), .inr (3, [.ref (u1.1 11), .null, .null, .int 0, .int 0, .int 0, .int 0, .int 0, .int 0, .ref (u1.1 12), .ref (u1.1 13), .ref (u1.1 14), .int 0])), ((u1.1 11), .inr (5, [.null, .int 0, .int 0, .int 0, .int 0, .int 0, .int 0, .long 0])), ((u1.1 2), .inr (1, [.int 0, .int 0, .int 0, .int 0, .int 0, .int 0, .int 0, .ref (u1.1 15), .int 0, .ref (u1.1 16), .int 0, .ref (u1.1 17), .ref (u1.1 18), .ref (u1.1 19), .int 0, .ref (u1.1 20), .int 0, .ref (u1.1 21), .ref (u1.1 22), .ref (u1.1 23)])), ((u1.1 15), .inl (G.2 1, 144, .inl (fun _ => 0))), ((u1.1 21), .inl (G.2 0, 6, .inl (fun _ => 0))), ((u1.1 22), .inl (G.2 0, 6, .inl (fun _ => 0))), ((u1.1 23), .inl (G.2 0, 6, .inl (fun _ => 0))), ((u1.1 4), .inr (4, [.int 0, .int 0, .ref (u1.1 24), .ref (u1.1 25), .ref (u1.1 26), .ref (u1.1 27), .ref (u1.1 28)])), ((u1.1 24), .inl (G.2 0, 4, .inl (fun _ => 0))), ((u1.1 10), .inr (2, [.ref (u1.1 29), .ref (u1.1 30), .int 0, .int 0, .int 0])), (m0, .inr (10, [.int 0, .int 0, .int (-1), .null, .null, .ref (u2.1 0), .int 0, .int 0, .int 0, .int 0, .int 0, .int 0, .int 0, .int 0, .int 0, .long 0, .ref (u2.1 1), .ref (u2.1 2), .ref (u2.1 3), .ref (u2.1 4), .int 0, .int 0, .int 0, .int 0, .ref (u2.1 5), .ref (u2.1 6), .ref (u2.1 7), .ref (u2.1 8), .int 0, .ref (u2.1 9), .ref (u2.1 10), .ref (u2.1 11), .ref (u2.1 12), .ref (u2.1 13), .ref (u2.1 14), .ref (u2.1 15), .int 0])), ((u2.1 0), .inl (G.2 3, 1000, .inl (fun _ => 0))), (o0, .inl (G.2 2, 1, .inr (.inl (fun _ => 0))))] H := hP
  have hD : va_D (fun q : Nat => s.heap.size ≤ q) [((u1.1 0), .inl (G.2 0, 1000, .inl (fun _ => 0))), ((u1.1 6), .inr (3, [.ref (u1.1 11), .null, .null, .int 0, .int 0, .int 0, .int 0, .int 0, .int 0, .ref (u1.1 12), .ref (u1.1 13), .ref (u1.1 14), .int 0])), ((u1.1 11), .inr (5, [.null, .int 0, .int 0, .int 0, .int 0, .int 0, .int 0, .long 0])), ((u1.1 2), .inr (1, [.int 0, .int 0, .int 0, .int 0, .int 0, .int 0, .int 0, .ref (u1.1 15), .int 0, .ref (u1.1 16), .int 0, .ref (u1.1 17), .ref (u1.1 18), .ref (u1.1 19), .int 0, .ref (u1.1 20), .int 0, .ref (u1.1 21), .ref (u1.1 22), .ref (u1.1 23)])), ((u1.1 15), .inl (G.2 1, 144, .inl (fun _ => 0))), ((u1.1 21), .inl (G.2 0, 6, .inl (fun _ => 0))), ((u1.1 22), .inl (G.2 0, 6, .inl (fun _ => 0))), ((u1.1 23), .inl (G.2 0, 6, .inl (fun _ => 0))), ((u1.1 4), .inr (4, [.int 0, .int 0, .ref (u1.1 24), .ref (u1.1 25), .ref (u1.1 26), .ref (u1.1 27), .ref (u1.1 28)])), ((u1.1 24), .inl (G.2 0, 4, .inl (fun _ => 0))), ((u1.1 10), .inr (2, [.ref (u1.1 29), .ref (u1.1 30), .int 0, .int 0, .int 0])), (m0, .inr (10, [.int 0, .int 0, .int (-1), .null, .null, .ref (u2.1 0), .int 0, .int 0, .int 0, .int 0, .int 0, .int 0, .int 0, .int 0, .int 0, .long 0, .ref (u2.1 1), .ref (u2.1 2), .ref (u2.1 3), .ref (u2.1 4), .int 0, .int 0, .int 0, .int 0, .ref (u2.1 5), .ref (u2.1 6), .ref (u2.1 7), .ref (u2.1 8), .int 0, .ref (u2.1 9), .ref (u2.1 10), .ref (u2.1 11), .ref (u2.1 12), .ref (u2.1 13), .ref (u2.1 14), .ref (u2.1 15), .int 0])), ((u2.1 0), .inl (G.2 3, 1000, .inl (fun _ => 0))), (o0, .inl (G.2 2, 1, .inr (.inl (fun _ => 0))))] := hD
  refine W.widen (k := 157) (n := 9541) (Nat.le_of_ble_eq_true rfl) (Nat.le_of_ble_eq_true rfl) ?_
  obtain rfl : r9 = 1 := hw
  refine lv_istore (lv' := [(5, .int 1), (4, .int 0), (3, .ref o0), (2, .ref m0), (1, .ref x0), (0, .ref b)]) hx hb dL_law_1773 hl (by decide) rfl (fun ls hl => ?_)
  refine lv_aload_n hx hb dL_law_1775 rfl (lv_at hl 3 rfl) ?_
  refine lv_aload_n hx hb dL_law_1776 rfl (lv_at hl 5 rfl) ?_
  refine lv_iload hx hb dL_law_1777 (lv_at hl 1 rfl) ?_
  refine lv_iconst (v := 1) hx hb dL_law_1779 (by decide) ?_
  refine lv_iadd hx hb dL_law_1780 ?_
  refine lv_topi (fun z1032 ez1032 => ?_)
  obtain rfl : z1032 = 1 := ez1032.trans (by decide)
  refine va_sld hx hb hX hbl hbA hS (vin (by decide)) dL_law_1781 ?_
  refine lv_topi (fun v1033 ev1033 => ?_)
  refine m_cVi (n := 1) (wr := [((u1.1 0), .inl (G.2 0, 1000, .inl (fun _ => 0))), ((u1.1 6), .inr (3, [.ref (u1.1 11), .null, .null, .int 0, .int 0, .int 0, .int 0, .int 0, .int 0, .ref (u1.1 12), .ref (u1.1 13), .ref (u1.1 14), .int 0])), ((u1.1 11), .inr (5, [.null, .int 0, .int 0, .int 0, .int 0, .int 0, .int 0, .long 0])), ((u1.1 2), .inr (1, [.int 0, .int 0, .int 0, .int 0, .int 0, .int 0, .int 0, .ref (u1.1 15), .int 0, .ref (u1.1 16), .int 0, .ref (u1.1 17), .ref (u1.1 18), .ref (u1.1 19), .int 0, .ref (u1.1 20), .int 0, .ref (u1.1 21), .ref (u1.1 22), .ref (u1.1 23)])), ((u1.1 15), .inl (G.2 1, 144, .inl (fun _ => 0))), ((u1.1 21), .inl (G.2 0, 6, .inl (fun _ => 0))), ((u1.1 22), .inl (G.2 0, 6, .inl (fun _ => 0))), ((u1.1 23), .inl (G.2 0, 6, .inl (fun _ => 0))), ((u1.1 4), .inr (4, [.int 0, .int 0, .ref (u1.1 24), .ref (u1.1 25), .ref (u1.1 26), .ref (u1.1 27), .ref (u1.1 28)])), ((u1.1 24), .inl (G.2 0, 4, .inl (fun _ => 0))), ((u1.1 10), .inr (2, [.ref (u1.1 29), .ref (u1.1 30), .int 0, .int 0, .int 0])), ((u2.1 0), .inl (G.2 3, 1000, .inl (fun _ => 0))), (o0, .inl (G.2 2, 1, .inr (.inl (fun _ => 0))))]) (C := RX13) (T := TX13) (N := 37) (ci := 10) (As := [.int v1033]) (rest := []) X hP hD hS (k163_X13_led l G m0 v1033 (u2.1 0) (u2.1 1) (u2.1 2) (u2.1 3) (u2.1 4) (u2.1 5) (u2.1 6) (u2.1 7) (u2.1 8) (u2.1 9) (u2.1 10) (u2.1 11) (u2.1 12) (u2.1 13) (u2.1 14) (u2.1 15)) [11] [0, 1, 2, 3, 4, 5, 6, 7, 8, 9, 10, 12, 13] rfl rfl (by decide) (by decide) (by decide) rfl rfl qw_1572 qw_1573 qw_1574 qw_5 qw_1575 ⟨rfl, by decide +kernel, by decide +kernel, by decide +kernel⟩ ⟨Nat.le_of_ble_eq_true rfl, Nat.le_of_ble_eq_true rfl⟩ hl rfl rfl (Nat.le_of_ble_eq_true rfl) dL_law_1782 ⟨Nat.le_of_ble_eq_true rfl, Nat.le_of_ble_eq_true rfl⟩ (fun r9 u1034 H locs hw hP hD hS => ?_)
  have hP : va_P G.1 vwCl [((u1.1 0), .inl (G.2 0, 1000, .inl (fun _ => 0))), ((u1.1 6), .inr (3, [.ref (u1.1 11), .null, .null, .int 0, .int 0, .int 0, .int 0, .int 0, .int 0, .ref (u1.1 12), .ref (u1.1 13), .ref (u1.1 14), .int 0])), ((u1.1 11), .inr (5, [.null, .int 0, .int 0, .int 0, .int 0, .int 0, .int 0, .long 0])), ((u1.1 2), .inr (1, [.int 0, .int 0, .int 0, .int 0, .int 0, .int 0, .int 0, .ref (u1.1 15), .int 0, .ref (u1.1 16), .int 0, .ref (u1.1 17), .ref (u1.1 18), .ref (u1.1 19), .int 0, .ref (u1.1 20), .int 0, .ref (u1.1 21), .ref (u1.1 22), .ref (u1.1 23)])), ((u1.1 15), .inl (G.2 1, 144, .inl (fun _ => 0))), ((u1.1 21), .inl (G.2 0, 6, .inl (fun _ => 0))), ((u1.1 22), .inl (G.2 0, 6, .inl (fun _ => 0))), ((u1.1 23), .inl (G.2 0, 6, .inl (fun _ => 0))), ((u1.1 4), .inr (4, [.int 0, .int 0, .ref (u1.1 24), .ref (u1.1 25), .ref (u1.1 26), .ref (u1.1 27), .ref (u1.1 28)])), ((u1.1 24), .inl (G.2 0, 4, .inl (fun _ => 0))), ((u1.1 10), .inr (2, [.ref (u1.1 29), .ref (u1.1 30), .int 0, .int 0, .int 0])), ((u2.1 0), .inl (G.2 3, 1000, .inl (fun _ => 0))), (o0, .inl (G.2 2, 1, .inr (.inl (fun _ => 0)))), (m0, .inr (10, [.int 1, .int 0, .int (-1), .null, .null, .ref (u2.1 0), .int 0, .int 0, .int 0, .int 0, .int 0, .int 0, .int 0, .int 0, .int 0, .long 0, .ref (u2.1 1), .ref (u2.1 2), .ref (u2.1 3), .ref (u2.1 4), .int 0, .int 0, .int 0, .int 0, .ref (u2.1 5), .ref (u2.1 6), .ref (u2.1 7), .ref (u2.1 8), .int 0, .ref (u2.1 9), .ref (u2.1 10), .ref (u2.1 11), .ref (u2.1 12), .ref (u2.1 13), .ref (u2.1 14), .ref (u2.1 15), .int 0]))] H := hP
  have hD : va_D (fun q : Nat => s.heap.size ≤ q) [((u1.1 0), .inl (G.2 0, 1000, .inl (fun _ => 0))), ((u1.1 6), .inr (3, [.ref (u1.1 11), .null, .null, .int 0, .int 0, .int 0, .int 0, .int 0, .int 0, .ref (u1.1 12), .ref (u1.1 13), .ref (u1.1 14), .int 0])), ((u1.1 11), .inr (5, [.null, .int 0, .int 0, .int 0, .int 0, .int 0, .int 0, .long 0])), ((u1.1 2), .inr (1, [.int 0, .int 0, .int 0, .int 0, .int 0, .int 0, .int 0, .ref (u1.1 15), .int 0, .ref (u1.1 16), .int 0, .ref (u1.1 17), .ref (u1.1 18), .ref (u1.1 19), .int 0, .ref (u1.1 20), .int 0, .ref (u1.1 21), .ref (u1.1 22), .ref (u1.1 23)])), ((u1.1 15), .inl (G.2 1, 144, .inl (fun _ => 0))), ((u1.1 21), .inl (G.2 0, 6, .inl (fun _ => 0))), ((u1.1 22), .inl (G.2 0, 6, .inl (fun _ => 0))), ((u1.1 23), .inl (G.2 0, 6, .inl (fun _ => 0))), ((u1.1 4), .inr (4, [.int 0, .int 0, .ref (u1.1 24), .ref (u1.1 25), .ref (u1.1 26), .ref (u1.1 27), .ref (u1.1 28)])), ((u1.1 24), .inl (G.2 0, 4, .inl (fun _ => 0))), ((u1.1 10), .inr (2, [.ref (u1.1 29), .ref (u1.1 30), .int 0, .int 0, .int 0])), ((u2.1 0), .inl (G.2 3, 1000, .inl (fun _ => 0))), (o0, .inl (G.2 2, 1, .inr (.inl (fun _ => 0)))), (m0, .inr (10, [.int 1, .int 0, .int (-1), .null, .null, .ref (u2.1 0), .int 0, .int 0, .int 0, .int 0, .int 0, .int 0, .int 0, .int 0, .int 0, .long 0, .ref (u2.1 1), .ref (u2.1 2), .ref (u2.1 3), .ref (u2.1 4), .int 0, .int 0, .int 0, .int 0, .ref (u2.1 5), .ref (u2.1 6), .ref (u2.1 7), .ref (u2.1 8), .int 0, .ref (u2.1 9), .ref (u2.1 10), .ref (u2.1 11), .ref (u2.1 12), .ref (u2.1 13), .ref (u2.1 14), .ref (u2.1 15), .int 0]))] := hD
  obtain rfl : r9 = 0 := hw
  refine lv_istore (lv' := [(6, .int 0), (5, .int 1), (4, .int 0), (3, .ref o0), (2, .ref m0), (1, .ref x0), (0, .ref b)]) hx hb dL_law_1785 hl (by decide) rfl (fun ls hl => ?_)
  refine lv_aload_n hx hb dL_law_1787 rfl (lv_at hl 4 rfl) ?_
  refine m_cVi (n := 0) (wr := [((u1.1 0), .inl (G.2 0, 1000, .inl (fun _ => 0))), ((u1.1 6), .inr (3, [.ref (u1.1 11), .null, .null, .int 0, .int 0, .int 0, .int 0, .int 0, .int 0, .ref (u1.1 12), .ref (u1.1 13), .ref (u1.1 14), .int 0])), ((u1.1 11), .inr (5, [.null, .int 0, .int 0, .int 0, .int 0, .int 0, .int 0, .long 0])), ((u1.1 2), .inr (1, [.int 0, .int 0, .int 0, .int 0, .int 0, .int 0, .int 0, .ref (u1.1 15), .int 0, .ref (u1.1 16), .int 0, .ref (u1.1 17), .ref (u1.1 18), .ref (u1.1 19), .int 0, .ref (u1.1 20), .int 0, .ref (u1.1 21), .ref (u1.1 22), .ref (u1.1 23)])), ((u1.1 15), .inl (G.2 1, 144, .inl (fun _ => 0))), ((u1.1 21), .inl (G.2 0, 6, .inl (fun _ => 0))), ((u1.1 22), .inl (G.2 0, 6, .inl (fun _ => 0))), ((u1.1 23), .inl (G.2 0, 6, .inl (fun _ => 0))), ((u1.1 4), .inr (4, [.int 0, .int 0, .ref (u1.1 24), .ref (u1.1 25), .ref (u1.1 26), .ref (u1.1 27), .ref (u1.1 28)])), ((u1.1 24), .inl (G.2 0, 4, .inl (fun _ => 0))), ((u1.1 10), .inr (2, [.ref (u1.1 29), .ref (u1.1 30), .int 0, .int 0, .int 0])), ((u2.1 0), .inl (G.2 3, 1000, .inl (fun _ => 0))), (o0, .inl (G.2 2, 1, .inr (.inl (fun _ => 0))))]) (C := RX13) (T := TX13) (N := 37) (ci := 10) (As := []) (rest := []) X hP hD hS (k164_X13_thrown l G m0 (u2.1 0) (u2.1 1) (u2.1 2) (u2.1 3) (u2.1 4) (u2.1 5) (u2.1 6) (u2.1 7) (u2.1 8) (u2.1 9) (u2.1 10) (u2.1 11) (u2.1 12) (u2.1 13) (u2.1 14) (u2.1 15)) [13] [0, 1, 2, 3, 4, 5, 6, 7, 8, 9, 10, 11, 12] rfl rfl (by decide) (by decide) (by decide) rfl rfl qw_1576 qw_1577 qw_1578 qw_5 qw_1579 ⟨rfl, by decide +kernel, by decide +kernel, by decide +kernel⟩ ⟨Nat.le_of_ble_eq_true rfl, Nat.le_of_ble_eq_true rfl⟩ hl rfl rfl (Nat.le_of_ble_eq_true rfl) dL_law_1788 ⟨Nat.le_of_ble_eq_true rfl, Nat.le_of_ble_eq_true rfl⟩ (fun r9 u1035 H locs hw hP hD hS => ?_)
  have hP : va_P G.1 vwCl [((u1.1 0), .inl (G.2 0, 1000, .inl (fun _ => 0))), ((u1.1 6), .inr (3, [.ref (u1.1 11), .null, .null, .int 0, .int 0, .int 0, .int 0, .int 0, .int 0, .ref (u1.1 12), .ref (u1.1 13), .ref (u1.1 14), .int 0])), ((u1.1 11), .inr (5, [.null, .int 0, .int 0, .int 0, .int 0, .int 0, .int 0, .long 0])), ((u1.1 2), .inr (1, [.int 0, .int 0, .int 0, .int 0, .int 0, .int 0, .int 0, .ref (u1.1 15), .int 0, .ref (u1.1 16), .int 0, .ref (u1.1 17), .ref (u1.1 18), .ref (u1.1 19), .int 0, .ref (u1.1 20), .int 0, .ref (u1.1 21), .ref (u1.1 22), .ref (u1.1 23)])), ((u1.1 15), .inl (G.2 1, 144, .inl (fun _ => 0))), ((u1.1 21), .inl (G.2 0, 6, .inl (fun _ => 0))), ((u1.1 22), .inl (G.2 0, 6, .inl (fun _ => 0))), ((u1.1 23), .inl (G.2 0, 6, .inl (fun _ => 0))), ((u1.1 4), .inr (4, [.int 0, .int 0, .ref (u1.1 24), .ref (u1.1 25), .ref (u1.1 26), .ref (u1.1 27), .ref (u1.1 28)])), ((u1.1 24), .inl (G.2 0, 4, .inl (fun _ => 0))), ((u1.1 10), .inr (2, [.ref (u1.1 29), .ref (u1.1 30), .int 0, .int 0, .int 0])), ((u2.1 0), .inl (G.2 3, 1000, .inl (fun _ => 0))), (o0, .inl (G.2 2, 1, .inr (.inl (fun _ => 0))))] H := hP
  have hD : va_D (fun q : Nat => s.heap.size ≤ q) [((u1.1 0), .inl (G.2 0, 1000, .inl (fun _ => 0))), ((u1.1 6), .inr (3, [.ref (u1.1 11), .null, .null, .int 0, .int 0, .int 0, .int 0, .int 0, .int 0, .ref (u1.1 12), .ref (u1.1 13), .ref (u1.1 14), .int 0])), ((u1.1 11), .inr (5, [.null, .int 0, .int 0, .int 0, .int 0, .int 0, .int 0, .long 0])), ((u1.1 2), .inr (1, [.int 0, .int 0, .int 0, .int 0, .int 0, .int 0, .int 0, .ref (u1.1 15), .int 0, .ref (u1.1 16), .int 0, .ref (u1.1 17), .ref (u1.1 18), .ref (u1.1 19), .int 0, .ref (u1.1 20), .int 0, .ref (u1.1 21), .ref (u1.1 22), .ref (u1.1 23)])), ((u1.1 15), .inl (G.2 1, 144, .inl (fun _ => 0))), ((u1.1 21), .inl (G.2 0, 6, .inl (fun _ => 0))), ((u1.1 22), .inl (G.2 0, 6, .inl (fun _ => 0))), ((u1.1 23), .inl (G.2 0, 6, .inl (fun _ => 0))), ((u1.1 4), .inr (4, [.int 0, .int 0, .ref (u1.1 24), .ref (u1.1 25), .ref (u1.1 26), .ref (u1.1 27), .ref (u1.1 28)])), ((u1.1 24), .inl (G.2 0, 4, .inl (fun _ => 0))), ((u1.1 10), .inr (2, [.ref (u1.1 29), .ref (u1.1 30), .int 0, .int 0, .int 0])), ((u2.1 0), .inl (G.2 3, 1000, .inl (fun _ => 0))), (o0, .inl (G.2 2, 1, .inr (.inl (fun _ => 0))))] := hD
  obtain rfl : r9 = 1 := hw
  refine lv_iload hx hb dL_law_1791 (lv_at hl 1 rfl) ?_
  refine lv_icmp_eq (tgt := 1798) hx hb dL_law_1793 (by decide) (fun _ => ?_) (fun c9 => absurd c9 (by decide))
  refine lv_iload hx hb dL_law_1798 (lv_at hl 1 rfl) ?_
  refine lv_if_ne (tgt := 1815) hx hb dL_law_1800 (by decide) (fun _ => ?_) (fun c9 => absurd c9 (by decide))
  refine lv_goto (tgt := 1856) hx hb dL_law_1815 (by decide) ?_
  exact law_back l G b xs X hX hbl hS (lv_sub hl [2, 6] rfl) (Nat.le_of_ble_eq_true rfl) (Nat.le_of_ble_eq_true rfl)
