/-! what the reference needs beyond the class: puts of nest mates, longs, static calls of nest mates -/
section MP
variable {p : Program} {l : Launch} {e : Env} {R : Room} {s : State} {m : MethodId} {args : Array Value} {below : List Frame} {meth : Method} {c : Code} {H : Heap} {locs : List Loc} {cells slots : Nat} {Q : State → Prop}
variable {pc : Nat} {ls : Array Slot} {rest st : List Value} {cc : ByteArray} {nL : Nat} {own : String} {rt : Option FieldType} {G : KG} {A : Nat → Prop} {Ts : List Cond} {a : Nat} {tt : TT} {tag : Nat → Nat} {L : List Nat} {F : Nat → va_E}
variable {y : MethodName} {cd : ByteArray} {mL : Nat} {rt2 : Option FieldType} {rm : Room} {As : List Value} {b : Nat} {index n : Nat} {lv : List (Nat × Value)}
theorem m_putN (X : CX p s m args meth c cc nL own rt G A Ts) {C : String} {T : u_T} {N ci index : Nat} {host : String} {ws : va_W} (hP : va_P G.1 vwCl ws H) (hD : va_D A ws) (hS : va_S A s.heap H locs) (ty0 : Nat → FieldType) (hty : ∀ k, k < N → parseFieldDescriptor (T k).2.2.1 = some (ty0 k)) (hnm : ∀ a, a < N → ∀ b, b < N → a ≠ b → (T a).2.1 ≠ (T b).2.1) (q0 : Nat) {fs : List Value} {ws' : va_W} (he : ws[q0]? = some (a, .inr (ci, fs))) (hc : vwCl[ci]? = some (C, T, N)) (k : Nat) (hk : k < N) (hw : (own, index, (T k).1, (T k).2.1, (T k).2.2.1, host) ∈ nestF) (hin : ∀ w ∈ u_ws C T N, w ∈ wsL_law) (hfin : (T k).2.2.2 = false) {v : Value} (hn : narrow (ty0 k) v = v) (hfit : fits (ty0 k) v = true) (hl : k < fs.length) (hws : ws.set q0 (a, .inr (ci, fs.set k v)) = ws') (hdg : decode cc pc = .ok (.putfield index, 3))
    (kk : ∀ (H1 : Heap) (locs1 : List Loc), va_P G.1 vwCl ws' H1 → va_D A ws' → va_S A s.heap H1 locs1 → W p l e R s m args below meth c H1 locs1 cells slots Q (F0 m (pc + 3) ls rest)) : W p l e R s m args below meth c H locs cells slots Q (F0 m pc ls (v :: .ref a :: rest)) := by
  subst hws
  exact va_putN (D := G.1) (host := host) X.1.1 X.1.2.1 X.1.2.2.2.2 (fun w h => X.2.1 w (hin w h)) ty0 hty hnm X.1.2.2.2.1 X.2.2.1 hP hD hS q0 he hc k hk (va_Nw.use rfl (X.2.2.2.1.1.2.1 _ hw)) (fun _ h => h) hfin (hty k hk) hn hfit hl hdg kk
theorem t_putN (X : CX p s m args meth c cc nL own rt G A Ts) (hT : TH G tt A s tag L F H locs) (ha : a ∈ L) {t : Nat} (ht : tag a = t) {ci : Nat} {ts : List FT} (hi : tt t = .inl (ci, ts)) {C : String} {T : u_T} {N index : Nat} {host : String} (ty0 : Nat → FieldType) (hty : ∀ k, k < N → parseFieldDescriptor (T k).2.2.1 = some (ty0 k)) (hnm : ∀ a, a < N → ∀ b, b < N → a ≠ b → (T a).2.1 ≠ (T b).2.1) (hc : vwCl[ci]? = some (C, T, N)) (k : Nat) (hk : k < N) (hw : (own, index, (T k).1, (T k).2.1, (T k).2.2.1, host) ∈ nestF) (hin : ∀ w ∈ u_ws C T N, w ∈ wsL_law) (hfin : (T k).2.2.2 = false) {v : Value} (hn : narrow (ty0 k) v = v) (hfit : fits (ty0 k) v = true) {ft : FT} (hf : ts[k]? = some ft) (hvo : okV tag L ft v) (hdg : decode cc pc = .ok (.putfield index, 3))
    (kk : ∀ (F1 : Nat → va_E) (H1 : Heap) (locs1 : List Loc), TH G tt A s tag L F1 H1 locs1 → fld F1 a k = v → (∀ b j : Nat, (b ≠ a ∨ j ≠ k) → fld F1 b j = fld F b j) → (∀ b j : Nat, elm F1 b j = elm F b j) → W p l e R s m args below meth c H1 locs1 cells slots Q (F0 m (pc + 3) ls rest)) : W p l e R s m args below meth c H locs cells slots Q (F0 m pc ls (v :: .ref a :: rest)) := by
  obtain ⟨q0, hq⟩ := th_at hT ha
  obtain ⟨fs, hfs, hlen, hok⟩ := th_obj hT ha ht hi
  obtain ⟨v0, hv0, -⟩ := hok k ft hf
  have hkl : k < fs.length := (List.getElem?_eq_some_iff.mp hv0).1
  have hq2 := hq
  rw [hfs] at hq2
  refine m_putN (host := host) X hT.1 hT.2.1 hT.2.2.1 ty0 hty hnm q0 hq2 hc k hk hw hin hfin hn hfit hkl rfl hdg (fun H1 locs1 hP hD hS => ?_)
  have ho : okE G tt tag L (tag a) (.inr (ci, fs.set k v)) := by
    unfold okE
    rw [ht, hi]
    refine ⟨_, rfl, by rw [List.length_set]; exact hlen, fun j t2 hj => ?_⟩
    by_cases h : j = k
    · subst h
      rw [hf] at hj
      cases hj
      exact ⟨v, by simp [hkl], hvo⟩
    · obtain ⟨v2, h2, h3⟩ := hok j t2 hj
      exact ⟨v2, by rw [List.getElem?_set_ne (Ne.symm h)]; exact h2, h3⟩
  refine kk (va_up F a (.inr (ci, fs.set k v))) H1 locs1 (th_up (D := G.1) hT ha hq hP hD hS ho) ?_ ?_ ?_
  · simp [fld, va_up, List.getD, hkl]
  · intro b j h
    by_cases hb : b = a
    · subst hb
      have hj : j ≠ k := h.resolve_left (fun q => q rfl)
      simp [fld, va_up, hfs, List.getD, List.getElem?_set_ne (Ne.symm hj)]
    · simp [fld, va_up, hb]
  · intro b j
    by_cases hb : b = a
    · subst hb
      simp [elm, va_up, hfs]
    · simp [elm, va_up, hb]
def TMl (l : Launch) (y : MethodName) (cd : ByteArray) (mL : Nat) (rm : Room) (G : KG) (tt : TT) (tag : Nat → Nat) (L : List Nat) (F : Nat → va_E) (av : List Value) (post : Int64 → (Nat → va_E) → Prop) : Prop :=
  ∀ sz : Nat, Met l y (.code y cd mL (some .long) :: wsL_law) rm (va_Pc av (Pw G (va_pl L F) sz)) (va_Ql (fun r F1 => okT G tt tag L F1 ∧ post r F1) (fun F1 t => Bw G (va_A (va_pl L F) sz) (va_pl L F1) t) (va_A (va_pl L F) sz)) rm.cells rm.slots (va_A (va_pl L F) sz)
theorem t_cVl (X : CX p s m args meth c cc nL own rt G A Ts) (hT : TH G tt A s tag L F H locs) {post : Int64 → (Nat → va_E) → Prop} (K : TMl l y cd mL rm G tt tag L F (.ref b :: As) post)
    (hb : b ∈ L) {t : Nat} (ht : tag b = t) {ci : Nat} {ts : List FT} (hi : tt t = .inl (ci, ts)) {C : String} {T : u_T} {N : Nat} (hc : vwCl[ci]? = some (C, T, N))
    (v1 : Cond.methodLink own index y ∈ wsL_law) (v2 : Cond.instanceMethod y ∈ wsL_law) (v3 : Cond.selects C y y ∈ wsL_law) (v4 : Cond.initialized C ∈ wsL_law) (v5 : Cond.code y cd mL (some .long) ∈ wsL_law)
    (hd : y.cls = C ∧ y.cls ≠ "java/lang/invoke/MethodHandle" ∧ y.cls ≠ "java/lang/invoke/VarHandle" ∧ (parseMethodDescriptor y.desc).map (fun d => d.parameters.length) = some n) (hRm : rm.frames + 1 ≤ R.frames ∧ 8 + (mL + 11) + rm.locals ≤ R.locals) (hls : lv_has ls nL lv) (hst : st = As.reverse ++ .ref b :: rest) (hAs : As.length = n) (hW : (rest.map fun v => v.category).sum ≤ 8) (hdg : decode cc pc = .ok (.invokevirtual index, 3)) (hf : cells + rm.cells ≤ R.cells ∧ slots + rm.slots ≤ R.slots)
    (kk : ∀ (r : Int64) (F1 : Nat → va_E) (H1 : Heap) (locs1 : List Loc), TH G tt A s tag L F1 H1 locs1 → post r F1 → W p l e R s m args below meth c H1 locs1 (cells + rm.cells) (slots + rm.slots) Q (F0 m (pc + 3) ls (.long r :: rest))) : W p l e R s m args below meth c H locs cells slots Q (F0 m pc ls st) := by
  subst hst
  obtain ⟨q0, hq⟩ := th_at hT hb
  obtain ⟨fs, hfs, -⟩ := th_obj hT hb ht hi
  rw [hfs] at hq
  have hFc := th_all hT X.2.2.2.2.1
  have hG : GoodIn Ts (wsV own index C y (.code y cd mL (some .long) :: wsL_law)) := gT X.2.1 (fun w hw => by
    simp only [wsV, List.cons_append, List.nil_append, List.mem_cons] at hw
    rcases hw with rfl | rfl | rfl | rfl | rfl | hw
    · exact v1
    · exact v2
    · exact v3
    · exact v4
    · exact v5
    · exact hw)
  refine va_calll (va_runV (As := As) (rest := rest) X.1 (K H.size) (cwV n X.1.2.2.2.2 hG rfl rfl rfl hd hRm) ⟨Pw_blind, va_recv X.2.2.1 hT.1 hc hq, fun U hU hW => m_pre (U0 := s) (av := .ref b :: As) X.2.2.1 X.2.2.2.1 hT.1 hT.2.1 hT.2.2.1 hFc U hU hW⟩ rfl hAs hls.1 rfl (lv_room hW) hdg hf) hT.2.2.1 (fun q _ h => hFc q h) hFc (fun r F1 t H1 locs1 ht hvm hw hB hz1 hk1 hS1 => ?_)
  obtain ⟨hP1, hD1⟩ := hB
  rw [ht] at hP1
  exact kk r F1 H1 locs1 (th_back hT X.2.2.2.2.1 hP1 hD1 hS1 hw.1) hw.2
theorem t_cSl (X : CX p s m args meth c cc nL own rt G A Ts) (hT : TH G tt A s tag L F H locs) {post : Int64 → (Nat → va_E) → Prop} (K : TMl l y cd mL rm G tt tag L F As post)
    (v1 : Cond.methodLink own index y ∈ wsL_law) (v2 : Cond.static y ∈ wsL_law) (v4 : Cond.initialized y.cls ∈ wsL_law) (v5 : Cond.code y cd mL (some .long) ∈ wsL_law)
    (hd : y.cls ≠ "java/lang/invoke/MethodHandle" ∧ y.cls ≠ "java/lang/invoke/VarHandle" ∧ (parseMethodDescriptor y.desc).map (fun d => d.parameters.length) = some n) (hRm : rm.frames + 1 ≤ R.frames ∧ 8 + (mL + 11) + rm.locals ≤ R.locals) (hls : lv_has ls nL lv) (hst : st = As.reverse ++ rest) (hAs : As.length = n) (hW : (rest.map fun v => v.category).sum ≤ 8) (hdg : decode cc pc = .ok (.invokestatic index, 3)) (hf : cells + rm.cells ≤ R.cells ∧ slots + rm.slots ≤ R.slots)
    (kk : ∀ (r : Int64) (F1 : Nat → va_E) (H1 : Heap) (locs1 : List Loc), TH G tt A s tag L F1 H1 locs1 → post r F1 → W p l e R s m args below meth c H1 locs1 (cells + rm.cells) (slots + rm.slots) Q (F0 m (pc + 3) ls (.long r :: rest))) : W p l e R s m args below meth c H locs cells slots Q (F0 m pc ls st) := by
  subst hst
  have hFc := th_all hT X.2.2.2.2.1
  have hG : GoodIn Ts (va_wsS own index y (.code y cd mL (some .long) :: wsL_law)) := gT X.2.1 (fun w hw => by
    simp only [va_wsS, List.cons_append, List.nil_append, List.mem_cons] at hw
    rcases hw with rfl | rfl | rfl | rfl | hw
    · exact v1
    · exact v2
    · exact v4
    · exact v5
    · exact hw)
  refine va_calll (va_runS (As := As) (rest := rest) X.1 (K H.size) (va_cwS n X.1.2.2.2.2 hG rfl rfl rfl hd hRm) ⟨Pw_blind, fun U hU hW => m_pre (U0 := s) (av := As) X.2.2.1 X.2.2.2.1 hT.1 hT.2.1 hT.2.2.1 hFc U hU hW⟩ rfl hAs hls.1 rfl (lv_room hW) hdg hf) hT.2.2.1 (fun q _ h => hFc q h) hFc (fun r F1 t H1 locs1 ht hvm hw hB hz1 hk1 hS1 => ?_)
  obtain ⟨hP1, hD1⟩ := hB
  rw [ht] at hP1
  exact kk r F1 H1 locs1 (th_back hT X.2.2.2.2.1 hP1 hD1 hS1 hw.1) hw.2
theorem t_bodyl {av : List Value} {post : Int64 → (Nat → va_E) → Prop} (hy : plainName y.cls = true) (hlen : (lg_sl av).length ≤ mL) (ho : okT G tt tag L F)
    (body : ∀ (p : Program) (e : Env) (s : State) (m : MethodId) (args : Array Value) (below : List Frame) (meth : Method) (c : Code) (ls : Array Slot) (A : Nat → Prop) (Q : State → Prop), Q = MQ below (va_Ql (fun r F1 => okT G tt tag L F1 ∧ post r F1) (fun F1 t => Bw G A (va_pl L F1) t) A) args s rm.cells rm.slots A → CX p s m args meth c cd mL y.cls (some .long) G A (.code y cd mL (some .long) :: wsL_law) → TH G tt A s tag L F s.heap [] → lv_has ls mL (lv_args 0 av) → W p l e rm s m args below meth c s.heap [] 0 0 Q (F0 m 0 ls [])) :
    TMl l y cd mL rm G tt tag L F av post := by
  intro sz
  refine m_body (Qf := fun A => va_Ql (fun r F1 => okT G tt tag L F1 ∧ post r F1) (fun F1 t => Bw G A (va_pl L F1) t) A) hy hlen ?_
  intro p e s m args below meth c ls A X hi hP hD hS hl
  exact body p e s m args below meth c ls A _ rfl X ⟨hP, hD, hS, ho⟩ hl
theorem t_lret {post : Int64 → (Nat → va_E) → Prop} {v : Int64} {k n : Nat} (hQ : Q = MQ below (va_Ql (fun r F1 => okT G tt tag L F1 ∧ post r F1) (fun F1 t => Bw G A (va_pl L F1) t) A) args s k n A) (X : CX p s m args meth c cc nL own (some .long) G A Ts) (hT : TH G tt A s tag L F H locs) (hp : post v F) (h1 : cells ≤ k) (h2 : slots ≤ n) (hdg : decode cc pc = .ok (.lreturn, 1)) :
    W p l e R s m args below meth c H locs cells slots Q (F0 m pc ls [.long v]) := by
  rw [hQ]
  refine W.widen h1 h2 ?_
  exact W.lret X.1.1 X.1.2.1 X.2.2.2.2.2.1 (fun t ht _ => ⟨⟨v, F, rfl, ⟨hT.2.2.2, hp⟩, by rw [ht]; exact hT.1, hT.2.1⟩, hT.2.2.1.F ht⟩) hT.2.2.1.2.2 hdg X.2.2.2.2.2.2
theorem t_cNi (X : CX p s m args meth c cc nL own rt G A Ts) (hT : TH G tt A s tag L F H locs) {post : Int32 → (Nat → va_E) → Prop} {host : String} (K : TMi l y cd mL rt2 rm G tt tag L F As post)
    (v1 : (own, index, y, host) ∈ nestM) (v2 : Cond.static y ∈ wsL_law) (v4 : Cond.initialized y.cls ∈ wsL_law) (v5 : Cond.code y cd mL rt2 ∈ wsL_law)
    (hd : y.cls ≠ "java/lang/invoke/MethodHandle" ∧ y.cls ≠ "java/lang/invoke/VarHandle" ∧ (parseMethodDescriptor y.desc).map (fun d => d.parameters.length) = some n) (hRm : rm.frames + 1 ≤ R.frames ∧ 8 + (mL + 11) + rm.locals ≤ R.locals) (hls : lv_has ls nL lv) (hst : st = As.reverse ++ rest) (hAs : As.length = n) (hW : (rest.map fun v => v.category).sum ≤ 8) (hdg : decode cc pc = .ok (.invokestatic index, 3)) (hf : cells + rm.cells ≤ R.cells ∧ slots + rm.slots ≤ R.slots)
    (kk : ∀ (r : Int32) (F1 : Nat → va_E) (H1 : Heap) (locs1 : List Loc), TH G tt A s tag L F1 H1 locs1 → post r F1 → W p l e R s m args below meth c H1 locs1 (cells + rm.cells) (slots + rm.slots) Q (F0 m (pc + 3) ls (.int r :: rest))) : W p l e R s m args below meth c H locs cells slots Q (F0 m pc ls st) := by
  subst hst
  have hFc := th_all hT X.2.2.2.2.1
  have hG : GoodIn Ts (.code y cd mL rt2 :: wsL_law) := gT X.2.1 (fun w hw => by
    rcases List.mem_cons.mp hw with rfl | hw
    · exact v5
    · exact hw)
  refine va_calli (va_runSN (host := host) (As := As) (rest := rest) X.1 (K H.size) ⟨va_cnB n X.1.2.2.2.2 hG rfl rfl rfl (X.2.2.2.1.1.1 _ v1) (X.1.2.2.2.2 _ (X.2.1 _ v4)) hd hRm, X.1.2.2.2.2 _ (X.2.1 _ v2), trivial⟩ ⟨Pw_blind, fun U hU hW => m_pre (U0 := s) (av := As) X.2.2.1 X.2.2.2.1 hT.1 hT.2.1 hT.2.2.1 hFc U hU hW⟩ rfl hAs hls.1 rfl (lv_room hW) hdg hf) hT.2.2.1 (fun q _ h => hFc q h) hFc (fun r F1 t H1 locs1 ht hvm hw hB hz1 hk1 hS1 => ?_)
  obtain ⟨hP1, hD1⟩ := hB
  rw [ht] at hP1
  exact kk r F1 H1 locs1 (th_back hT X.2.2.2.2.1 hP1 hD1 hS1 hw.1) hw.2
theorem m_ldc2 (X : CX p s m args meth c cc nL own rt G A Ts) {v : Int64} (hw : Cond.constantLong own index v ∈ wsL_law) (hdg : decode cc pc = .ok (.ldc2_w index, 3))
    (kk : W p l e R s m args below meth c H locs cells slots Q (F0 m (pc + 3) ls (.long v :: rest))) : W p l e R s m args below meth c H locs cells slots Q (F0 m pc ls rest) := lv_ldc2 X.1.1 X.1.2.1 X.1.2.2.2.1 (X.1.2.2.2.2 _ (X.2.1 _ hw)) hdg kk
theorem t_fldn (ho : okT G tt tag L F) (ha : a ∈ L) {t : Nat} (ht : tag a = t) {ci : Nat} {ts : List FT} (hi : tt t = .inl (ci, ts)) (k : Nat) {t2 x2 : Int} (hf : ts[k]? = some (2, t2, x2)) : fld F a k = .null ∨ ∃ b : Nat, fld F a k = .ref b ∧ b ∈ L ∧ (tag b : Int) = t2 := by
  have h := ho a ha
  rw [ht] at h
  unfold okE at h
  rw [hi] at h
  obtain ⟨fs, hfs, hlen, hok⟩ := h
  obtain ⟨v, hv, hvo⟩ := hok k _ hf
  have e : fld F a k = v := by
    unfold fld
    rw [hfs]
    simp [List.getD, hv]
  rw [e]
  exact okV_n hvo
theorem t_fldo (ho : okT G tt tag L F) (ha : a ∈ L) {t : Nat} (ht : tag a = t) {ci : Nat} {ts : List FT} (hi : tt t = .inl (ci, ts)) (k : Nat) {t2 x2 : Int} (hf : ts[k]? = some (1, t2, x2)) : ∃ b : Nat, fld F a k = .ref b ∧ b ∈ L ∧ (tag b : Int) = t2 := by
  have h := ho a ha
  rw [ht] at h
  unfold okE at h
  rw [hi] at h
  obtain ⟨fs, hfs, hlen, hok⟩ := h
  obtain ⟨v, hv, hvo⟩ := hok k _ hf
  obtain ⟨z, rfl, r⟩ := okV_r hvo
  refine ⟨z, ?_, r⟩
  unfold fld
  rw [hfs]
  simp [List.getD, hv]
end MP
theorem at_ne {tag : Nat → Nat} {a b t : Nat} (ht : tag a = t) (n : tag b ≠ t) : b ≠ a := fun q => n (by rw [q]; exact ht)
theorem tcn_eq {i : Int32} : i.toNatClampNeg = i.toInt.toNat := rfl
theorem ine {i j : Int32} (h : i.toInt ≠ j.toInt) (hi : 0 ≤ i.toInt) (hj : 0 ≤ j.toInt) : i.toNatClampNeg ≠ j.toNatClampNeg := by
  rw [tcn_eq, tcn_eq]
  omega
theorem row_m {i : Int32} (h : 0 ≤ i.toInt ∧ i.toInt < 4) : rowIv i.toNatClampNeg = (0, 6) := by
  unfold rowIv
  rw [if_pos (by rw [tcn_eq]; omega)]
theorem row_s {i : Int32} (h : 12 ≤ i.toInt ∧ i.toInt < 204) (h8 : i.toInt % 8 = 4) : rowIv i.toNatClampNeg = (0, 3) := by
  unfold rowIv
  rw [if_neg (by rw [tcn_eq]; omega), if_pos (by rw [tcn_eq]; omega)]
theorem row_f {i : Int32} (h : 4 ≤ i.toInt) (h8 : i.toInt < 12 ∨ 204 ≤ i.toInt ∨ i.toInt % 8 ≠ 4) : rowIv i.toNatClampNeg = (-2147483648, 2147483647) := by
  unfold rowIv
  rw [if_neg (by rw [tcn_eq]; omega), if_neg (by rw [tcn_eq]; omega)]
theorem row_mv {i z : Int32} (h : 0 ≤ i.toInt ∧ i.toInt < 4) (r : 0 ≤ z.toInt ∧ z.toInt ≤ 6) : (rowIv i.toNatClampNeg).1 ≤ z.toInt ∧ z.toInt ≤ (rowIv i.toNatClampNeg).2 := by rw [row_m h]; exact r
theorem row_sv {i z : Int32} (h : 12 ≤ i.toInt ∧ i.toInt < 204) (h8 : i.toInt % 8 = 4) (r : 0 ≤ z.toInt ∧ z.toInt ≤ 3) : (rowIv i.toNatClampNeg).1 ≤ z.toInt ∧ z.toInt ≤ (rowIv i.toNatClampNeg).2 := by rw [row_s h h8]; exact r
theorem row_fv {i z : Int32} (h : 4 ≤ i.toInt) (h8 : i.toInt < 12 ∨ 204 ≤ i.toInt ∨ i.toInt % 8 ≠ 4) : (rowIv i.toNatClampNeg).1 ≤ z.toInt ∧ z.toInt ≤ (rowIv i.toNatClampNeg).2 := by rw [row_f h h8]; exact rg_all z
theorem row_ml {i z : Int32} (h : 0 ≤ i.toInt ∧ i.toInt < 4) (r : (rowIv i.toNatClampNeg).1 ≤ z.toInt ∧ z.toInt ≤ (rowIv i.toNatClampNeg).2) : 0 ≤ z.toInt ∧ z.toInt ≤ 6 := by rw [row_m h] at r; exact r
theorem row_sl {i z : Int32} (h : 12 ≤ i.toInt ∧ i.toInt < 204) (h8 : i.toInt % 8 = 4) (r : (rowIv i.toNatClampNeg).1 ≤ z.toInt ∧ z.toInt ≤ (rowIv i.toNatClampNeg).2) : 0 ≤ z.toInt ∧ z.toInt ≤ 3 := by rw [row_s h h8] at r; exact r
theorem row_e {i : Int32} (h : 0 ≤ i.toInt ∧ i.toInt < 212) : rowIvM i.toNatClampNeg = rowIv i.toNatClampNeg := by
  unfold rowIvM
  rw [Nat.mod_eq_of_lt (by rw [tcn_eq]; omega)]
/-- copies between rows: the place in a row of rows is that in a row -/
theorem row_c1 {i k z : Int32} {a : Int} (h : i.toInt = 212 * a + k.toInt) (h0 : 0 ≤ a) (hk : 0 ≤ k.toInt ∧ k.toInt < 212) (r : (rowIv k.toNatClampNeg).1 ≤ z.toInt ∧ z.toInt ≤ (rowIv k.toNatClampNeg).2) : (rowIvM i.toNatClampNeg).1 ≤ z.toInt ∧ z.toInt ≤ (rowIvM i.toNatClampNeg).2 := by
  have e : i.toNatClampNeg % 212 = k.toNatClampNeg := by rw [tcn_eq, tcn_eq]; omega
  unfold rowIvM
  rw [e]
  exact r
theorem row_c2 {i k z : Int32} {a : Int} (h : i.toInt = 212 * a + k.toInt) (h0 : 0 ≤ a) (hk : 0 ≤ k.toInt ∧ k.toInt < 212) (r : (rowIvM i.toNatClampNeg).1 ≤ z.toInt ∧ z.toInt ≤ (rowIvM i.toNatClampNeg).2) : (rowIv k.toNatClampNeg).1 ≤ z.toInt ∧ z.toInt ≤ (rowIv k.toNatClampNeg).2 := by
  have e : i.toNatClampNeg % 212 = k.toNatClampNeg := by rw [tcn_eq, tcn_eq]; omega
  unfold rowIvM at r
  rw [e] at r
  exact r
theorem row_c3 {i k z : Int32} (h : i.toInt = k.toInt + 212) (hk : 0 ≤ k.toInt) (r : (rowIvM i.toNatClampNeg).1 ≤ z.toInt ∧ z.toInt ≤ (rowIvM i.toNatClampNeg).2) : (rowIvM k.toNatClampNeg).1 ≤ z.toInt ∧ z.toInt ≤ (rowIvM k.toNatClampNeg).2 := by
  have e : i.toNatClampNeg % 212 = k.toNatClampNeg % 212 := by rw [tcn_eq, tcn_eq]; omega
  unfold rowIvM at r ⊢
  rw [e] at r
  exact r
theorem tn_of {x : Int32} (h : 0 ≤ x.toInt) : (x.toBitVec.toNat : Int) = x.toInt := by
  obtain ⟨j, hj, e, hh⟩ := nn_of h
  rw [hh, e, pk_tn (by omega)]
theorem ar_or {x y z : Int32} {C : Int} (ez : z = x ||| y) (k : Nat) (hx : 0 ≤ x.toInt ∧ x.toInt ≤ C) (hy : 0 ≤ y.toInt ∧ y.toInt ≤ C) (hk : ((2 ^ k - 1 : Nat) : Int) = C ∧ k ≤ 30) : 0 ≤ z.toInt ∧ z.toInt ≤ C := by
  have h0 : 0 < 2 ^ k := Nat.pow_pos (by decide)
  have h2 : 2 ^ k ≤ 2 ^ 30 := Nat.pow_le_pow_right (by decide) hk.2
  have hx1 := tn_of hx.1
  have hy1 := tn_of hy.1
  have hb : (x.toBitVec ||| y.toBitVec).toNat < 2 ^ k := by
    rw [BitVec.toNat_or]
    exact Nat.or_lt_two_pow (by omega) (by omega)
  have e : z.toInt = ((x.toBitVec ||| y.toBitVec).toNat : Int) := by
    rw [ez]
    show (x ||| y).toBitVec.toInt = _
    rw [Int32.toBitVec_or, BitVec.toInt_eq_toNat_of_lt (by omega)]
  rw [e]
  omega
theorem ar_andn {x y z : Int32} (ez : z = x &&& y) (hx : 0 ≤ x.toInt) (hy : 0 ≤ y.toInt) : 0 ≤ z.toInt ∧ z.toInt ≤ x.toInt ∧ z.toInt ≤ y.toInt := by
  have hx1 := tn_of hx
  have hy1 := tn_of hy
  have h1 : (x.toBitVec &&& y.toBitVec).toNat ≤ x.toBitVec.toNat := by rw [BitVec.toNat_and]; exact Nat.and_le_left
  have h2 : (x.toBitVec &&& y.toBitVec).toNat ≤ y.toBitVec.toNat := by rw [BitVec.toNat_and]; exact Nat.and_le_right
  have h3 := rg_all x
  have e : z.toInt = ((x.toBitVec &&& y.toBitVec).toNat : Int) := by
    rw [ez]
    show (x &&& y).toBitVec.toInt = _
    rw [Int32.toBitVec_and, BitVec.toInt_eq_toNat_of_lt (by omega)]
  rw [e]
  omega
theorem ar_shl3 {y z : Int32} (ez : z = (1 : Int32) <<< (y &&& 31)) (hy : 0 ≤ y.toInt ∧ y.toInt ≤ 5) : 1 ≤ z.toInt ∧ z.toInt ≤ 32 ∧ (y.toInt ≤ 3 → z.toInt ≤ 8) := by
  have h : y = 0 ∨ y = 1 ∨ y = 2 ∨ y = 3 ∨ y = 4 ∨ y = 5 := by
    have k : ∀ c : Int32, y.toInt = c.toInt → y = c := fun c q => Int32.toInt_inj.mp q
    have : y.toInt = 0 ∨ y.toInt = 1 ∨ y.toInt = 2 ∨ y.toInt = 3 ∨ y.toInt = 4 ∨ y.toInt = 5 := by omega
    rcases this with q | q | q | q | q | q
    · exact Or.inl (k 0 (q.trans (by decide)))
    · exact Or.inr (Or.inl (k 1 (q.trans (by decide))))
    · exact Or.inr (Or.inr (Or.inl (k 2 (q.trans (by decide)))))
    · exact Or.inr (Or.inr (Or.inr (Or.inl (k 3 (q.trans (by decide))))))
    · exact Or.inr (Or.inr (Or.inr (Or.inr (Or.inl (k 4 (q.trans (by decide)))))))
    · exact Or.inr (Or.inr (Or.inr (Or.inr (Or.inr (k 5 (q.trans (by decide)))))))
  rcases h with rfl | rfl | rfl | rfl | rfl | rfl <;> (rw [ez]; decide)
theorem ar_div8 {x y z : Int32} (ez : z = x / y) (hx : 0 ≤ x.toInt) (hy : 1 ≤ y.toInt) (h : x.toInt < 4 * y.toInt) : 0 ≤ z.toInt ∧ z.toInt ≤ 3 := by
  have e := ar_div ez rfl rfl hx (by omega)
  have h1 := Int.ediv_nonneg hx (b := y.toInt) (by omega)
  have h2 : x.toInt / y.toInt < 4 := Int.ediv_lt_of_lt_mul (by omega) h
  omega
/-- the reading's relations: OVER stays; how far it has come; a FAULT was noted -/
def STK (a b : Int32) : Prop := a.toInt = 5 → b.toInt = 5
def SPT (a i b j : Int32) : Prop := i.toInt ≤ j.toInt ∧ (b.toInt = 4 → a.toInt = 4 ∨ i.toInt < j.toInt)
def KF (a f : Int32) : Prop := a.toInt = 5 → 1 ≤ f.toInt
theorem STK.rf {a : Int32} : STK a a := fun h => h
theorem STK.tr {a b c : Int32} (h : STK a b) (k : STK b c) : STK a c := fun q => k (h q)
theorem SPT.rf {a i : Int32} : SPT a i a i := ⟨Int.le_refl _, Or.inl⟩
theorem SPT.tr {a i b j c k : Int32} (h : SPT a i b j) (q : SPT b j c k) : SPT a i c k := by
  refine ⟨Int.le_trans h.1 q.1, fun e => ?_⟩
  rcases q.2 e with q1 | q1
  · rcases h.2 q1 with h1 | h1
    · exact Or.inl h1
    · exact Or.inr (Int.lt_of_lt_of_le h1 q.1)
  · exact Or.inr (Int.lt_of_le_of_lt h.1 q1)

theorem ar_zadd {x z : Int32} (e : z = 0 + x) : z = x := by rw [e]; simp
def PLr (na st ho he wa wi : Int32) : Prop := na.toInt = st.toInt + ho.toInt + he.toInt + wa.toInt ∧ (1 ≤ ho.toInt → 1 ≤ wi.toInt)
theorem t_elm {G : KG} {A : Nat → Prop} {s : State} {H : Heap} {locs : List Loc} {a : Nat} {tt : TT} {tag : Nat → Nat} {L : List Nat} {F : Nat → va_E} (hT : TH G tt A s tag L F H locs) (ha : a ∈ L) {t : Nat} (ht : tag a = t) {n : Nat} {iv : Nat → Int × Int} (hi : tt t = .inr (0, n, iv)) {i : Int32} (hin : 0 ≤ i.toInt ∧ i.toInt < n) : ∃ z : Int32, elm F a i.toNatClampNeg = z ∧ (iv i.toNatClampNeg).1 ≤ z.toInt ∧ z.toInt ≤ (iv i.toNatClampNeg).2 := by
  obtain ⟨f, hf, hok⟩ := (th_arr hT ha ht hi : okA G tag L (0, n, iv) (F a))
  have hj : i.toNatClampNeg < n := by rw [tcn_eq]; omega
  exact ⟨_, rfl, by simpa [elm, hf] using hok _ hj⟩
/-! the pair of rows nameSort and nameNumber -/
def MSQ (F : Nat → va_E) (xs xn j : Nat) : Prop := (elm F xs j = 0 → 0 ≤ (elm F xn j).toInt ∧ (elm F xn j).toInt ≤ 3) ∧ (elm F xs j = 1 → 0 ≤ (elm F xn j).toInt ∧ (elm F xn j).toInt ≤ 3) ∧ (elm F xs j = 3 → 0 ≤ (elm F xn j).toInt ∧ (elm F xn j).toInt ≤ 5)
def MSR (F : Nat → va_E) (xs xn : Nat) : Prop := ∀ j : Nat, MSQ F xs xn j
theorem msr_of {F F1 : Nat → va_E} {xs xn : Nat} (h1 : ∀ j : Nat, elm F1 xs j = elm F xs j) (h2 : ∀ j : Nat, elm F1 xn j = elm F xn j) (h : MSR F xs xn) : MSR F1 xs xn := by
  intro j
  have h3 := h j
  unfold MSQ at h3 ⊢
  rw [h1, h2]
  exact h3
theorem msr_s {F F1 : Nat → va_E} {xs xn k : Nat} (h : MSR F xs xn) (h1 : ∀ b j : Nat, (b ≠ xs ∨ j ≠ k) → elm F1 b j = elm F b j) (hne : xn ≠ xs) : ∀ j : Nat, j ≠ k → MSQ F1 xs xn j := by
  intro j hj
  have h3 := h j
  unfold MSQ at h3 ⊢
  rw [h1 xs j (Or.inr hj), h1 xn j (Or.inl hne)]
  exact h3
theorem msr_n {F F1 : Nat → va_E} {xs xn k : Nat} {x y : Int32} (h : ∀ j : Nat, j ≠ k → MSQ F xs xn j) (hx : elm F xs k = x) (h1 : ∀ b j : Nat, (b ≠ xn ∨ j ≠ k) → elm F1 b j = elm F b j) (hy : elm F1 xn k = y) (hne : xs ≠ xn) (hb : (x = 0 → 0 ≤ y.toInt ∧ y.toInt ≤ 3) ∧ (x = 1 → 0 ≤ y.toInt ∧ y.toInt ≤ 3) ∧ (x = 3 → 0 ≤ y.toInt ∧ y.toInt ≤ 5)) : MSR F1 xs xn := by
  intro j
  by_cases hj : j = k
  · subst hj
    unfold MSQ
    rw [h1 xs j (Or.inl hne), hx, hy]
    exact hb
  · have h3 := h j hj
    unfold MSQ at h3 ⊢
    rw [h1 xs j (Or.inr hj), h1 xn j (Or.inr hj)]
    exact h3
theorem msr_0 {F : Nat → va_E} {xs xn k : Nat} {x y : Int32} (h : MSR F xs xn) (hx : elm F xs k = x) (hy : elm F xn k = y) (h4 : x.toInt = 0) : 0 ≤ y.toInt ∧ y.toInt ≤ 3 := by
  have h1 := (h k).1 (hx.trans (i32_of h4))
  rw [hy] at h1
  exact h1
theorem msr_1 {F : Nat → va_E} {xs xn k : Nat} {x y : Int32} (h : MSR F xs xn) (hx : elm F xs k = x) (hy : elm F xn k = y) (h4 : x.toInt = 1) : 0 ≤ y.toInt ∧ y.toInt ≤ 3 := by
  have h1 := (h k).2.1 (hx.trans (i32_of h4))
  rw [hy] at h1
  exact h1
theorem msr_3 {F : Nat → va_E} {xs xn k : Nat} {x y : Int32} (h : MSR F xs xn) (hx : elm F xs k = x) (hy : elm F xn k = y) (h4 : x.toInt = 3) : 0 ≤ y.toInt ∧ y.toInt ≤ 5 := by
  have h1 := (h k).2.2 (hx.trans (i32_of h4))
  rw [hy] at h1
  exact h1
/-! rows that are turned: distinct numbers, and the row read as a number to the base 6, which grows -/
def SWP (F0 F1 : Nat → va_E) (b i j : Nat) : Prop := ∀ k : Nat, elm F1 b k = if k = j then elm F0 b i else if k = i then elm F0 b j else elm F0 b k
def DJ (F : Nat → va_E) (b N : Nat) : Prop := ∀ i j : Nat, i < N → j < N → elm F b i = elm F b j → i = j
def lxv (f : Nat → Int) : Nat → Int
  | 0 => 0
  | n + 1 => lxv f n * 6 + f n
def RNG (F : Nat → va_E) (b N : Nat) : Prop := ∀ k : Nat, k < N → 0 ≤ (elm F b k).toInt ∧ (elm F b k).toInt ≤ 5
def CAR (F : Nat → va_E) (b N : Nat) (lx : Int) : Prop := DJ F b N ∧ lxv (fun k => (elm F b k).toInt) N = lx ∧ RNG F b N
theorem car_of {F F1 : Nat → va_E} {b N : Nat} {lx : Int} (h : ∀ j : Nat, elm F1 b j = elm F b j) (hc : CAR F b N lx) : CAR F1 b N lx := by
  refine ⟨fun i j hi hj e => hc.1 i j hi hj (by rw [← h i, ← h j]; exact e), ?_, fun k hk => by rw [h k]; exact hc.2.2 k hk⟩
  rw [← hc.2.1]
  exact congrArg (fun f => lxv f N) (funext (fun k => by rw [h k]))
theorem dj_swp {F0 F1 : Nat → va_E} {b N i j : Nat} (hd : DJ F0 b N) (hs : SWP F0 F1 b i j) (hi : i < N) (hj : j < N) : DJ F1 b N := by
  intro x y hx hy h
  have key : ∀ k : Nat, k < N → ∃ q : Nat, q < N ∧ elm F1 b k = elm F0 b q ∧ ((k = j ∧ q = i) ∨ (k ≠ j ∧ k = i ∧ q = j) ∨ (k ≠ j ∧ k ≠ i ∧ q = k)) := by
    intro k hk
    rw [hs k]
    by_cases a : k = j
    · rw [if_pos a]
      exact ⟨i, hi, rfl, Or.inl ⟨a, rfl⟩⟩
    · rw [if_neg a]
      by_cases c : k = i
      · rw [if_pos c]
        exact ⟨j, hj, rfl, Or.inr (Or.inl ⟨a, c, rfl⟩)⟩
      · rw [if_neg c]
        exact ⟨k, hk, rfl, Or.inr (Or.inr ⟨a, c, rfl⟩)⟩
  obtain ⟨q1, h1, e1, c1⟩ := key x hx
  obtain ⟨q2, h2, e2, c2⟩ := key y hy
  have h3 := hd q1 q2 h1 h2 (by rw [← e1, ← e2]; exact h)
  omega
theorem lxv_eq : ∀ (N : Nat) (f g : Nat → Int), (∀ k : Nat, k < N → f k = g k) → lxv f N = lxv g N
  | 0, _, _, _ => rfl
  | N + 1, f, g, h => by
    show lxv f N * 6 + f N = lxv g N * 6 + g N
    rw [lxv_eq N f g (fun k hk => h k (by omega)), h N (by omega)]
theorem lxv_lt : ∀ (N : Nat) (f g : Nat → Int), (∀ k : Nat, k < N → 0 ≤ f k ∧ f k ≤ 5) → (∀ k : Nat, k < N → 0 ≤ g k ∧ g k ≤ 5) → ∀ i : Nat, i < N → (∀ k : Nat, k < i → f k = g k) → f i < g i → lxv f N < lxv g N
  | 0, _, _, _, _, i, hi, _, _ => absurd hi (Nat.not_lt_zero i)
  | N + 1, f, g, hf, hg, i, hi, he, hl => by
    show lxv f N * 6 + f N < lxv g N * 6 + g N
    by_cases h : i = N
    · subst h
      rw [lxv_eq i f g he]
      omega
    · have ih := lxv_lt N f g (fun k hk => hf k (by omega)) (fun k hk => hg k (by omega)) i (by omega) he hl
      have a := hf N (by omega)
      have b := hg N (by omega)
      omega
theorem car_b4 {F : Nat → va_E} {b : Nat} {lx : Int} (h : CAR F b 4 lx) : 0 ≤ lx ∧ lx ≤ 1295 := by
  have h1 := h.2.1
  have b0 := h.2.2 0 (by omega)
  have b1 := h.2.2 1 (by omega)
  have b2 := h.2.2 2 (by omega)
  have b3 := h.2.2 3 (by omega)
  simp only [lxv] at h1
  omega
theorem car_b6 {F : Nat → va_E} {b : Nat} {lx : Int} (h : CAR F b 6 lx) : 0 ≤ lx ∧ lx ≤ 46655 := by
  have h1 := h.2.1
  have b0 := h.2.2 0 (by omega)
  have b1 := h.2.2 1 (by omega)
  have b2 := h.2.2 2 (by omega)
  have b3 := h.2.2 3 (by omega)
  have b4 := h.2.2 4 (by omega)
  have b5 := h.2.2 5 (by omega)
  simp only [lxv] at h1
  omega
theorem car_4 {F : Nat → va_E} {b : Nat} (h0 : elm F b 0 = 0) (h1 : elm F b 1 = 1) (h2 : elm F b 2 = 2) (h3 : elm F b 3 = 3) : ∃ lx : Int, CAR F b 4 lx := by
  have key : ∀ k : Nat, k < 4 → (elm F b k).toInt = (k : Int) := by
    intro k hk
    match k, hk with
    | 0, _ => rw [h0]; decide
    | 1, _ => rw [h1]; decide
    | 2, _ => rw [h2]; decide
    | 3, _ => rw [h3]; decide
  refine ⟨_, fun i j hi hj e => ?_, rfl, fun k hk => by rw [key k hk]; omega⟩
  have e1 := congrArg Int32.toInt e
  rw [key i hi, key j hj] at e1
  omega
theorem car_6 {F : Nat → va_E} {b : Nat} (h0 : elm F b 0 = 0) (h1 : elm F b 1 = 1) (h2 : elm F b 2 = 2) (h3 : elm F b 3 = 3) (h4 : elm F b 4 = 4) (h5 : elm F b 5 = 5) : ∃ lx : Int, CAR F b 6 lx := by
  have key : ∀ k : Nat, k < 6 → (elm F b k).toInt = (k : Int) := by
    intro k hk
    match k, hk with
    | 0, _ => rw [h0]; decide
    | 1, _ => rw [h1]; decide
    | 2, _ => rw [h2]; decide
    | 3, _ => rw [h3]; decide
    | 4, _ => rw [h4]; decide
    | 5, _ => rw [h5]; decide
  refine ⟨_, fun i j hi hj e => ?_, rfl, fun k hk => by rw [key k hk]; omega⟩
  have e1 := congrArg Int32.toInt e
  rw [key i hi, key j hj] at e1
  omega
theorem tj_le {F Fo : Nat → va_E} {b : Nat} {i z zi z1 : Int32} (he : ∀ k : Nat, elm F b k = elm Fo b k) (h1 : elm F b i.toNatClampNeg = zi) (h2 : elm F b z.toNatClampNeg = z1) (hz : z.toInt = i.toInt + 1) (h0 : 0 ≤ i.toInt) (hc : zi.toInt ≤ z1.toInt) : (elm Fo b i.toNatClampNeg).toInt ≤ (elm Fo b (i.toNatClampNeg + 1)).toInt := by
  have e : z.toNatClampNeg = i.toNatClampNeg + 1 := by rw [tcn_eq, tcn_eq]; omega
  rw [← he, ← he, ← e, h1, h2]
  exact hc
theorem tj_step {F Fo : Nat → va_E} {b : Nat} {i j zi zj : Int32} (he : ∀ k : Nat, elm F b k = elm Fo b k) (h1 : elm F b i.toNatClampNeg = zi) (h2 : elm F b j.toNatClampNeg = zj) (hc : zj.toInt < zi.toInt) (h : (elm Fo b i.toNatClampNeg).toInt ≤ (elm Fo b (i.toNatClampNeg + 1)).toInt) (h0 : 0 ≤ i.toInt) (hl : i.toInt + 1 ≤ j.toInt) : i.toInt + 1 ≤ j.toInt - 1 := by
  by_cases q : j.toInt = i.toInt + 1
  · exfalso
    have e : j.toNatClampNeg = i.toNatClampNeg + 1 := by rw [tcn_eq, tcn_eq]; omega
    rw [← he, ← he, ← e, h1, h2] at h
    omega
  · omega
theorem tj_in {F F1 Fo : Nat → va_E} {b N : Nat} {i j zi zj : Int32} {lx : Int} (he : ∀ k : Nat, elm F b k = elm Fo b k) (hd : CAR Fo b N lx) (hs : SWP F F1 b i.toNatClampNeg j.toNatClampNeg) (h0 : 0 ≤ i.toInt) (hij : i.toInt + 1 ≤ j.toInt) (hj : j.toInt < (N : Int)) (h1 : elm F b i.toNatClampNeg = zi) (h2 : elm F b j.toNatClampNeg = zj) (hc : zi.toInt ≤ zj.toInt) : DJ F1 b N ∧ (∀ k : Nat, k < i.toNatClampNeg → elm F1 b k = elm Fo b k) ∧ (elm Fo b i.toNatClampNeg).toInt < (elm F1 b i.toNatClampNeg).toInt := by
  have hi9 : i.toNatClampNeg < N := by rw [tcn_eq]; omega
  have hj9 : j.toNatClampNeg < N := by rw [tcn_eq]; omega
  have hij9 : i.toNatClampNeg < j.toNatClampNeg := by rw [tcn_eq, tcn_eq]; omega
  have hdF : DJ F b N := fun x y hx hy e => hd.1 x y hx hy (by rw [← he, ← he]; exact e)
  refine ⟨dj_swp hdF hs hi9 hj9, fun k hk => ?_, ?_⟩
  · rw [hs k, if_neg (by omega), if_neg (by omega)]
    exact he k
  · rw [hs, if_neg (by omega), if_pos rfl, ← he, h1, h2]
    have hne : zi ≠ zj := fun q => by
      have := hdF i.toNatClampNeg j.toNatClampNeg hi9 hj9 (by rw [h1, h2]; exact q)
      omega
    have hne2 : zi.toInt ≠ zj.toInt := fun q => hne (Int32.toInt_inj.mp q)
    omega
theorem tj_lp {F F1 Fo : Nat → va_E} {b N : Nat} {i a c : Int32} (hd : DJ F b N) (g2 : ∀ k : Nat, k < i.toNatClampNeg → elm F b k = elm Fo b k) (g3 : (elm Fo b i.toNatClampNeg).toInt < (elm F b i.toNatClampNeg).toInt) (hs : SWP F F1 b a.toNatClampNeg c.toNatClampNeg) (h0 : 0 ≤ i.toInt) (hia : i.toInt + 1 ≤ a.toInt) (hac : a.toInt < c.toInt) (hc : c.toInt < (N : Int)) : DJ F1 b N ∧ (∀ k : Nat, k < i.toNatClampNeg → elm F1 b k = elm Fo b k) ∧ (elm Fo b i.toNatClampNeg).toInt < (elm F1 b i.toNatClampNeg).toInt := by
  have h1 : i.toNatClampNeg < a.toNatClampNeg := by rw [tcn_eq, tcn_eq]; omega
  have h2 : a.toNatClampNeg < c.toNatClampNeg := by rw [tcn_eq, tcn_eq]; omega
  have h3 : c.toNatClampNeg < N := by rw [tcn_eq]; omega
  refine ⟨dj_swp hd hs (by omega) h3, fun k hk => ?_, ?_⟩
  · rw [hs k, if_neg (by omega), if_neg (by omega)]
    exact g2 k hk
  · rw [hs, if_neg (by omega), if_neg (by omega)]
    exact g3
theorem tj_end {F Fo : Nat → va_E} {b N : Nat} {i : Int32} {lx : Int} (hc : CAR Fo b N lx) (hr : RNG F b N) (hd : DJ F b N) (g2 : ∀ k : Nat, k < i.toNatClampNeg → elm F b k = elm Fo b k) (g3 : (elm Fo b i.toNatClampNeg).toInt < (elm F b i.toNatClampNeg).toInt) (h0 : 0 ≤ i.toInt) (hi : i.toInt < (N : Int)) : ∃ lx9 : Int, CAR F b N lx9 ∧ lx < lx9 := by
  refine ⟨_, ⟨hd, rfl, hr⟩, ?_⟩
  rw [← hc.2.1]
  exact lxv_lt N _ _ hc.2.2 hr i.toNatClampNeg (by rw [tcn_eq]; omega) (fun k hk => by rw [g2 k hk]) g3
theorem t_rng {G : KG} {A : Nat → Prop} {s : State} {H : Heap} {locs : List Loc} {a : Nat} {tt : TT} {tag : Nat → Nat} {L : List Nat} {F : Nat → va_E} (hT : TH G tt A s tag L F H locs) (ha : a ∈ L) {t : Nat} (ht : tag a = t) {n : Nat} {lo hi : Int} (hi9 : tt t = .inr (0, n, fun _ => (lo, hi))) (h0 : 0 ≤ lo) (h5 : hi ≤ 5) : RNG F a n := by
  obtain ⟨f, hf, hok⟩ := (th_arr hT ha ht hi9 : okA G tag L (0, n, fun _ => (lo, hi)) (F a))
  intro k hk
  have h1 := hok k hk
  have e : elm F a k = f k := by simp [elm, hf]
  rw [e]
  exact ⟨Int.le_trans h0 h1.1, Int.le_trans h1.2 h5⟩
/-- a SKIN of a house stands -/
def INM (F : Nat → va_E) (x : Nat) (p : Int32) : Prop := ∃ k : Int, 1 ≤ k ∧ k ≤ (elm F x p.toNatClampNeg).toInt ∧ elm F x (48 * p.toInt + 8 * k + 9).toNat = 0
theorem inm_r {F : Nat → va_E} {x : Nat} {p r i m z : Int32} (h1 : 1 ≤ r.toInt) (hm : elm F x p.toNatClampNeg = m) (hr : r.toInt ≤ m.toInt) (hi : i.toInt = 48 * p.toInt + 8 * r.toInt + 9) (hz : elm F x i.toNatClampNeg = z) (h0 : z.toInt = 0) : INM F x p := by
  refine ⟨r.toInt, h1, by rw [hm]; exact hr, ?_⟩
  rw [← hi]
  exact hz.trans (i32_of (h0.trans (by decide)))
theorem inm_s {F : Nat → va_E} {x : Nat} {p r i z : Int32} (ex : ∀ k : Int, 1 ≤ k → k < r.toInt → elm F x (48 * p.toInt + 8 * k + 9).toNat ≠ 0) (hi : i.toInt = 48 * p.toInt + 8 * r.toInt + 9) (hz : elm F x i.toNatClampNeg = z) (h0 : z.toInt ≠ 0) {r1 : Int32} (h1 : r1.toInt = r.toInt + 1) : ∀ k : Int, 1 ≤ k → k < r1.toInt → elm F x (48 * p.toInt + 8 * k + 9).toNat ≠ 0 := by
  intro k k1 k2
  by_cases q : k = r.toInt
  · subst q
    rw [← hi]
    intro e
    rw [← tcn_eq, hz] at e
    rw [e] at h0
    exact h0 (by decide)
  · exact ex k k1 (by omega)
theorem inm_n {F : Nat → va_E} {x : Nat} {p r m : Int32} (ex : ∀ k : Int, 1 ≤ k → k < r.toInt → elm F x (48 * p.toInt + 8 * k + 9).toNat ≠ 0) (hm : elm F x p.toNatClampNeg = m) (hr : m.toInt < r.toInt) : ¬ INM F x p := by
  rintro ⟨k, k1, k2, k3⟩
  rw [hm] at k2
  exact ex k k1 (by omega) k3
