/-! String constants by their places: what ldc, length and charAt need -/
section TK9
variable {p : Program} {l : Launch} {e : Env} {R : Room} {s : State} {m : MethodId} {args : Array Value} {below : List Frame} {meth : Method} {c : Code} {H : Heap} {locs : List Loc} {cells slots : Nat} {Q : State → Prop}
variable {pc : Nat} {ls : Array Slot} {rest st : List Value} {cc : ByteArray} {nL index : Nat} {own : String} {rt : Option FieldType} {G : KG} {A : Nat → Prop} {Ts : List Cond} {tt : TT} {tag : Nat → Nat} {L : List Nat} {F : Nat → va_E} {lv : List (Nat × Value)} {k : Nat}
theorem ss_at (X : CX p s m args meth c cc nL own rt G A Ts) (hk : k < 77) : ∃ w : String × Nat × String, strW[k]? = some w ∧ SSk G k w A s s.heap := by
  have h : k < strW.length := Nat.lt_of_lt_of_le hk (by decide +kernel)
  exact ⟨strW[k], List.getElem?_eq_getElem h, X.2.2.2.1.2.2.2.2 k _ (List.getElem?_eq_getElem h)⟩
theorem m_ldcK (X : CX p s m args meth c cc nL own rt G A Ts) {tx : String} (k : Nat) (hw : strW[k]? = some (own, index, tx)) (hdg : decode cc pc = .ok (.ldc index, 2))
    (kk : W p l e R s m args below meth c H locs cells slots Q (F0 m (pc + 2) ls (.ref (G.2 (100 + k)) :: rest))) : W p l e R s m args below meth c H locs cells slots Q (F0 m pc ls rest) :=
  va_ldcS X.1.1 X.1.2.1 X.1.2.2.2.1 (X.2.2.2.1.2.2.2.2 k _ hw).1 hdg kk
theorem my_ldcSw {T : State} (X : Stand p l e R s m args below meth c T locs cells slots) (hexec : p.tables.exec = Jvm.exec) {text : String} {a : Nat} (hown : s.vm.findClass own = some m.cls) (hZ : vk_R own index text a s) {g : JFrame} (hg : g.method = m) (hdg : decode c.code g.pc = .ok (.ldc_w index, 3)) :
    ∀ target, Steps p.tables e below (T.setTop { g with pc := g.pc + 3, stack := .ref a :: g.stack }) target → Steps p.tables e below (T.setTop g) target := by
  obtain ⟨k, cf, i, a', hk, hcf, hcp, -, hr, hev'⟩ := Cond.stringRef_spec hown hZ.1
  cases hZ.2.symm.trans hev'
  obtain ⟨k', hk', he⟩ := X.warmed.alike.2.2 _ _ hk
  have hr' : k'.resolved[index]? = some (some (.string a)) := by
    rcases X.warmed.entry hk hk' index with h | ⟨h, -⟩
    · rw [h]; exact hr
    · rw [hr] at h; cases h
  intro target hrest
  subst hg
  jvm_step X.here [hexec, hdg, ldc_w.wp_string (e := e) (s := T) (f := g) X.here.top hk' (by rw [he]; exact hcf) hcp hr']
  exact hrest
theorem m_ldcKw (X : CX p s m args meth c cc nL own rt G A Ts) {tx : String} (k : Nat) (hw : strW[k]? = some (own, index, tx)) (hdg : decode cc pc = .ok (.ldc_w index, 3))
    (kk : W p l e R s m args below meth c H locs cells slots Q (F0 m (pc + 3) ls (.ref (G.2 (100 + k)) :: rest))) : W p l e R s m args below meth c H locs cells slots Q (F0 m pc ls rest) := by
  have hZ := (X.2.2.2.1.2.2.2.2 k _ hw).1
  have hexec := X.1.1
  have hb := X.1.2.1
  have hown := X.1.2.2.2.1
  intro T hT X
  obtain ⟨t, a1, b1⟩ := kk T hT X
  exact ⟨t, my_ldcSw X hexec hown hZ (g := F0 m pc ls rest) rfl (by rw [hb]; exact hdg) t a1, b1⟩
theorem m_sval (X : CX p s m args meth c cc nL own rt G A Ts) (hT : TH G tt A s tag L F H locs) (hk : k < 77) (hw : Cond.fieldLink own index "java/lang/String" "value" "[B" ∈ wsL_law) (hdg : decode cc pc = .ok (.getfield index, 3))
    (kk : W p l e R s m args below meth c H locs cells slots Q (F0 m (pc + 3) ls (.ref (G.2 (300 + k)) :: rest))) : W p l e R s m args below meth c H locs cells slots Q (F0 m pc ls (.ref (G.2 (100 + k)) :: rest)) := by
  obtain ⟨w, -, h⟩ := ss_at X hk
  exact vk_getf X.1.1 X.1.2.1 h.2.2.2.1 hT.2.2.1 X.1.2.2.2.1 (X.1.2.2.2.2 _ (X.2.1 _ hw)) (fun _ h => h) hdg kk
theorem m_scod (X : CX p s m args meth c cc nL own rt G A Ts) (hT : TH G tt A s tag L F H locs) (hk : k < 77) (hw : Cond.fieldLink own index "java/lang/String" "coder" "B" ∈ wsL_law) (hdg : decode cc pc = .ok (.getfield index, 3))
    (kk : W p l e R s m args below meth c H locs cells slots Q (F0 m (pc + 3) ls (.int 0 :: rest))) : W p l e R s m args below meth c H locs cells slots Q (F0 m pc ls (.ref (G.2 (100 + k)) :: rest)) := by
  obtain ⟨w, -, h⟩ := ss_at X hk
  exact vk_getf X.1.1 X.1.2.1 h.2.2.1 hT.2.2.1 X.1.2.2.2.1 (X.1.2.2.2.2 _ (X.2.1 _ hw)) (fun _ h => h) hdg kk
theorem m_scs (X : CX p s m args meth c cc nL own rt G A Ts) (hT : TH G tt A s tag L F H locs) (hw : Cond.fieldLink own index "java/lang/String" "COMPACT_STRINGS" "Z" ∈ wsL_law) (hdg : decode cc pc = .ok (.getstatic index, 3))
    (kk : W p l e R s m args below meth c H locs cells slots Q (F0 m (pc + 3) ls (.int 1 :: rest))) : W p l e R s m args below meth c H locs cells slots Q (F0 m pc ls rest) :=
  va_gets X.1.1 X.1.2.1 X.2.2.2.1.2.2.1 hT.2.2.1 X.1.2.2.2.1 (X.1.2.2.2.2 _ (X.2.1 _ hw)) (fun _ h => h) hdg kk
theorem m_sfm (X : CX p s m args meth c cc nL own rt G A Ts) (hT : TH G tt A s tag L F H locs) (hw : Cond.fieldLink own index "jdk/internal/util/Preconditions" "SIOOBE_FORMATTER" "Ljava/util/function/BiFunction;" ∈ wsL_law) (hdg : decode cc pc = .ok (.getstatic index, 3))
    (k1 : W p l e R s m args below meth c H locs cells slots Q (F0 m (pc + 3) ls (.null :: rest))) (k2 : W p l e R s m args below meth c H locs cells slots Q (F0 m (pc + 3) ls (.ref (G.2 20) :: rest))) : W p l e R s m args below meth c H locs cells slots Q (F0 m pc ls rest) := by
  rcases X.2.2.2.1.2.2.2.1 with h | h
  · exact va_gets X.1.1 X.1.2.1 h hT.2.2.1 X.1.2.2.2.1 (X.1.2.2.2.2 _ (X.2.1 _ hw)) (fun _ h => h) hdg k1
  · exact va_gets X.1.1 X.1.2.1 h hT.2.2.1 X.1.2.2.2.1 (X.1.2.2.2.2 _ (X.2.1 _ hw)) (fun _ h => h) hdg k2
theorem lenI {n : Nat} (h : n ≤ 8) : (Int32.ofNat n).toInt = (n : Int) := by
  exact Int32.toInt_ofNat_of_lt (by omega)
theorem m_vlen (X : CX p s m args meth c cc nL own rt G A Ts) (hT : TH G tt A s tag L F H locs) (hk : k < 77) (hdg : decode cc pc = .ok (.arraylength, 1))
    (kk : ∀ z : Int32, z.toInt = (lenS k : Int) → W p l e R s m args below meth c H locs cells slots Q (F0 m (pc + 1) ls (.int z :: rest))) : W p l e R s m args below meth c H locs cells slots Q (F0 m pc ls (.ref (G.2 (300 + k)) :: rest)) := by
  obtain ⟨w, -, h⟩ := ss_at X hk
  exact va_tlen X.1.1 X.1.2.1 h.2.2.2.2 hT.2.2.1 rfl hdg (kk _ (lenI (lenS_le k)))
theorem m_vld (X : CX p s m args meth c cc nL own rt G A Ts) (hT : TH G tt A s tag L F H locs) (hk : k < 77) {i : Int32} (hin : 0 ≤ i.toInt ∧ i.toInt < (lenS k : Int)) (hdg : decode cc pc = .ok (.baload, 1))
    (kk : ∀ z : Int32, W p l e R s m args below meth c H locs cells slots Q (F0 m (pc + 1) ls (.int z :: rest))) : W p l e R s m args below meth c H locs cells slots Q (F0 m pc ls (.int i :: .ref (G.2 (300 + k)) :: rest)) := by
  obtain ⟨w, -, h⟩ := ss_at X hk
  exact va_tb X.1.1 X.1.2.1 h.2.2.2.2 hT.2.2.1 (vp_in_iff.mpr hin) rfl hdg (kk _)
variable {y : MethodName} {cd : ByteArray} {mL n : Nat} {rt2 : Option FieldType} {rm : Room} {As : List Value}
theorem t_cKi (X : CX p s m args meth c cc nL own rt G A Ts) (hT : TH G tt A s tag L F H locs) {post : Int32 → (Nat → va_E) → Prop} (K : TMi l y cd mL rt2 rm G tt tag L F (.ref (G.2 (100 + k)) :: As) post) (hk : k < 77)
    (v1 : Cond.methodLink own index y ∈ wsL_law) (v2 : Cond.instanceMethod y ∈ wsL_law) (v3 : Cond.selects "java/lang/String" y y ∈ wsL_law) (v4 : Cond.initialized "java/lang/String" ∈ wsL_law) (v5 : Cond.code y cd mL rt2 ∈ wsL_law)
    (hd : y.cls = "java/lang/String" ∧ y.cls ≠ "java/lang/invoke/MethodHandle" ∧ y.cls ≠ "java/lang/invoke/VarHandle" ∧ (parseMethodDescriptor y.desc).map (fun d => d.parameters.length) = some n) (hRm : rm.frames + 1 ≤ R.frames ∧ 8 + (mL + 11) + rm.locals ≤ R.locals) (hls : lv_has ls nL lv) (hst : st = As.reverse ++ .ref (G.2 (100 + k)) :: rest) (hAs : As.length = n) (hW : (rest.map fun v => v.category).sum ≤ 8) (hdg : decode cc pc = .ok (.invokevirtual index, 3)) (hf : cells + rm.cells ≤ R.cells ∧ slots + rm.slots ≤ R.slots)
    (kk : ∀ (r : Int32) (F1 : Nat → va_E) (H1 : Heap) (locs1 : List Loc), TH G tt A s tag L F1 H1 locs1 → post r F1 → W p l e R s m args below meth c H1 locs1 (cells + rm.cells) (slots + rm.slots) Q (F0 m (pc + 3) ls (.int r :: rest))) : W p l e R s m args below meth c H locs cells slots Q (F0 m pc ls st) := by
  subst hst
  obtain ⟨w, -, h⟩ := ss_at X hk
  have hr : ∃ cell : Cell, H[G.2 (100 + k)]? = some cell ∧ cell.vm.isStatics = false ∧ s.vm.findClass "java/lang/String" = some cell.cls := by
    obtain ⟨cell, h1, h2, h3, -⟩ := h.2.1.kept hT.2.2.1.2.1
    exact ⟨cell, h1, h2, h3⟩
  have hFc := th_all hT X.2.2.2.2.1
  have hG : GoodIn Ts (wsV own index "java/lang/String" y (.code y cd mL rt2 :: wsL_law)) := gT X.2.1 (fun w hw => by
    simp only [wsV, List.cons_append, List.nil_append, List.mem_cons] at hw
    rcases hw with rfl | rfl | rfl | rfl | rfl | hw
    · exact v1
    · exact v2
    · exact v3
    · exact v4
    · exact v5
    · exact hw)
  refine va_calli (va_runV (As := As) (rest := rest) X.1 (K H.size) (cwV n X.1.2.2.2.2 hG rfl rfl rfl hd hRm) ⟨Pw_blind, hr, fun U hU hW => m_pre (U0 := s) (av := .ref (G.2 (100 + k)) :: As) X.2.2.1 X.2.2.2.1 hT.1 hT.2.1 hT.2.2.1 hFc U hU hW⟩ rfl hAs hls.1 rfl (lv_room hW) hdg hf) hT.2.2.1 (fun q _ h => hFc q h) hFc (fun r F1 t H1 locs1 ht hvm hw hB hz1 hk1 hS1 => ?_)
  obtain ⟨hP1, hD1⟩ := hB
  rw [ht] at hP1
  exact kk r F1 H1 locs1 (th_back hT X.2.2.2.2.1 hP1 hD1 hS1 hw.1) hw.2
theorem t_cret {post : Int32 → (Nat → va_E) → Prop} {v : Int32} {k n : Nat} (hQ : Q = MQ below (va_Qi (fun r F1 => okT G tt tag L F1 ∧ post r F1) (fun F1 t => Bw G A (va_pl L F1) t) A) args s k n A) (X : CX p s m args meth c cc nL own (some .char) G A Ts) (hT : TH G tt A s tag L F H locs) (hz : narrow .char (.int v) = .int v) (hp : post v F) (h1 : cells ≤ k) (h2 : slots ≤ n) (hdg : decode cc pc = .ok (.ireturn, 1)) :
    W p l e R s m args below meth c H locs cells slots Q (F0 m pc ls [.int v]) := by
  rw [hQ]
  refine W.widen h1 h2 ?_
  exact W.zret X.1.1 X.1.2.1 X.2.2.2.2.2.1 hz (fun t ht _ => ⟨⟨v, F, rfl, ⟨hT.2.2.2, hp⟩, by rw [ht]; exact hT.1, hT.2.1⟩, hT.2.2.1.F ht⟩) hT.2.2.1.2.2 hdg X.2.2.2.2.2.2
theorem t_bret {post : Int32 → (Nat → va_E) → Prop} {v : Int32} {k n : Nat} (hQ : Q = MQ below (va_Qi (fun r F1 => okT G tt tag L F1 ∧ post r F1) (fun F1 t => Bw G A (va_pl L F1) t) A) args s k n A) (X : CX p s m args meth c cc nL own (some .byte) G A Ts) (hT : TH G tt A s tag L F H locs) (hz : narrow .byte (.int v) = .int v) (hp : post v F) (h1 : cells ≤ k) (h2 : slots ≤ n) (hdg : decode cc pc = .ok (.ireturn, 1)) :
    W p l e R s m args below meth c H locs cells slots Q (F0 m pc ls [.int v]) := by
  rw [hQ]
  refine W.widen h1 h2 ?_
  exact W.zret X.1.1 X.1.2.1 X.2.2.2.2.2.1 hz (fun t ht _ => ⟨⟨v, F, rfl, ⟨hT.2.2.2, hp⟩, by rw [ht]; exact hT.1, hT.2.1⟩, hT.2.2.1.F ht⟩) hT.2.2.1.2.2 hdg X.2.2.2.2.2.2
end TK9
