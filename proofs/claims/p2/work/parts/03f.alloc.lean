/-! what makes new cells: tags and addresses grow; a cell under construction has a tag of its own -/
def tup (tag : Nat → Nat) (a t : Nat) : Nat → Nat := fun b => if b = a then t else tag b
theorem tup_self {tag : Nat → Nat} {a t : Nat} : tup tag a t a = t := if_pos rfl
theorem tup_ne {tag : Nat → Nat} {a b t : Nat} (h : b ≠ a) : tup tag a t b = tag b := if_neg h
def elr (F : Nat → va_E) (a j : Nat) : Option Nat := match F a with
  | .inl (_, _, .inr (.inr (.inr (.inr f)))) => f j
  | _ => none
def lk (x : (Nat × List FT) ⊕ AT) (k : Int) : Prop := match x with
  | .inl o => ∃ f ∈ o.2, (f.1 = 1 ∨ f.1 = 2) ∧ f.2.1 = k
  | .inr a => a.1 = 4 ∧ ∃ j : Nat, (a.2.2 j).1 = k
theorem okV_g {tag tag1 : Nat → Nat} {L L1 : List Nat} {t : FT} {v : Value} (h : ∀ b ∈ L, (t.1 = 1 ∨ t.1 = 2) → (tag b : Int) = t.2.1 → b ∈ L1 ∧ tag1 b = tag b) (ho : okV tag L t v) : okV tag1 L1 t v := by
  obtain ⟨k, x, y⟩ := t
  match k, h, ho with
  | 0, _, ho => exact ho
  | 1, h, ho =>
    obtain ⟨b, e, hb, ht⟩ := ho
    exact ⟨b, e, (h b hb (Or.inl rfl) ht).1, by rw [(h b hb (Or.inl rfl) ht).2]; exact ht⟩
  | 2, h, ho =>
    rcases ho with e | ⟨b, e, hb, ht⟩
    · exact Or.inl e
    · exact Or.inr ⟨b, e, (h b hb (Or.inr rfl) ht).1, by rw [(h b hb (Or.inr rfl) ht).2]; exact ht⟩
  | 3, _, ho => exact ho
  | n + 4, _, _ => trivial
theorem okA_g {G : KG} {tag tag1 : Nat → Nat} {L L1 : List Nat} {t : AT} {e : va_E} (h : ∀ b ∈ L, t.1 = 4 → ∀ j : Nat, (tag b : Int) = (t.2.2 j).1 → b ∈ L1 ∧ tag1 b = tag b) (ho : okA G tag L t e) : okA G tag1 L1 t e := by
  obtain ⟨k, n, iv⟩ := t
  by_cases h4 : k = 4
  · subst h4
    obtain ⟨f, e1, e2⟩ := ho
    refine ⟨f, e1, fun j hj => ?_⟩
    obtain ⟨b, g1, g2, g3⟩ := e2 j hj
    exact ⟨b, g1, (h b g2 rfl j g3).1, by rw [(h b g2 rfl j g3).2]; exact g3⟩
  · by_cases h2 : k = 2
    · subst h2; exact ho
    · by_cases h6 : k = 6
      · subst h6; exact ho
      · unfold okA at ho ⊢
        split at ho
        · rename_i q; exact absurd q h2
        · rename_i q; exact absurd q h4
        · rename_i q; exact absurd q h6
        · exact ho
theorem okE_g {G : KG} {tt : TT} {tag tag1 : Nat → Nat} {L L1 : List Nat} {t : Nat} {e : va_E} (h : ∀ b ∈ L, lk (tt t) (tag b) → b ∈ L1 ∧ tag1 b = tag b) (ho : okE G tt tag L t e) : okE G tt tag1 L1 t e := by
  unfold okE at ho ⊢
  cases hx : tt t with
  | inl o =>
    rw [hx] at ho h
    obtain ⟨fs, e1, e2, e3⟩ := ho
    refine ⟨fs, e1, e2, fun k t2 hk => ?_⟩
    obtain ⟨v, h1, h2⟩ := e3 k t2 hk
    exact ⟨v, h1, okV_g (fun b hb hl e4 => h b hb ⟨t2, List.mem_of_getElem? hk, hl, e4.symm⟩) h2⟩
  | inr a =>
    rw [hx] at ho h
    exact okA_g (fun b hb hl j e4 => h b hb ⟨hl, j, e4.symm⟩) ho
abbrev TU : Type := (Nat → Nat) × List Nat × (Nat → va_E)
/-- what stays of the old cells, but of one -/
def EXTR (p : Nat) (tag : Nat → Nat) (L : List Nat) (F : Nat → va_E) (u : TU) : Prop := (∀ b ∈ L, b ∈ u.2.1 ∧ (b ≠ p → u.1 b = tag b)) ∧ ∀ b j : Nat, b ∈ L → b ≠ p → fld u.2.2 b j = fld F b j ∧ elm u.2.2 b j = elm F b j ∧ elr u.2.2 b j = elr F b j
theorem EXTR.rf {p : Nat} {tag : Nat → Nat} {L : List Nat} {F : Nat → va_E} : EXTR p tag L F (tag, L, F) := ⟨fun _ h => ⟨h, fun _ => rfl⟩, fun _ _ _ _ => ⟨rfl, rfl, rfl⟩⟩
theorem EXTR.tr {p q : Nat} {tag tag1 : Nat → Nat} {L L1 : List Nat} {F F1 : Nat → va_E} {u : TU} (h : EXTR p tag L F (tag1, L1, F1)) (k : EXTR q tag1 L1 F1 u) (hq : ∀ b ∈ L, b ≠ p → b ≠ q) (hp : p ∈ L → p ∈ u.2.1) : EXTR p tag L F u := by
  refine ⟨fun b hb => ?_, fun b j hb hn => ?_⟩
  · obtain ⟨h1, h2⟩ := h.1 b hb
    refine ⟨(k.1 b h1).1, fun hn => ?_⟩
    rw [(k.1 b h1).2 (hq b hb hn)]
    exact h2 hn
  · obtain ⟨h1, -⟩ := h.1 b hb
    obtain ⟨a1, a2, a3⟩ := h.2 b j hb hn
    obtain ⟨b1, b2, b3⟩ := k.2 b j h1 (hq b hb hn)
    exact ⟨b1.trans a1, b2.trans a2, b3.trans a3⟩
section AL
variable {p : Program} {l : Launch} {e : Env} {R : Room} {s : State} {m : MethodId} {args : Array Value} {below : List Frame} {meth : Method} {c : Code} {H : Heap} {locs : List Loc} {cells slots : Nat} {Q : State → Prop}
variable {pc : Nat} {ls : Array Slot} {rest st : List Value} {cc : ByteArray} {nL : Nat} {own : String} {rt : Option FieldType} {G : KG} {A : Nat → Prop} {Ts : List Cond} {a : Nat} {tt : TT} {tag : Nat → Nat} {L : List Nat} {F : Nat → va_E}
theorem pl_nin {q : Nat} {e1 : va_E} (hD : va_D A (va_pl L F ++ [(q, e1)])) : q ∉ L := by
  intro h
  obtain ⟨k, hk⟩ := va_pl_get (X := []) (f := F) h
  have hk : (va_pl L F)[k]? = some (q, F q) := hk
  have h1 : k < (va_pl L F).length := (List.getElem?_eq_some_iff.mp hk).1
  have h2 : (va_pl L F ++ [(q, e1)])[k]? = some (q, F q) := by rw [List.getElem?_append_left h1]; exact hk
  have h3 : (va_pl L F ++ [(q, e1)])[(va_pl L F).length]? = some (q, e1) := by rw [List.getElem?_append_right (Nat.le_refl _)]; simp
  have h4 := hD.1 _ _ _ _ h2 h3 rfl
  omega
/-- a new cell comes to the typed ones -/
theorem th_push {q t : Nat} {e1 : va_E} {H1 : Heap} {locs1 : List Loc} (hT : TH G tt A s tag L F H locs) (hP : va_P G.1 vwCl (va_pl L F ++ [(q, e1)]) H1) (hD : va_D A (va_pl L F ++ [(q, e1)])) (hS : va_S A s.heap H1 locs1) (ho : okE G tt (tup tag q t) (L ++ [q]) t e1) :
    ∃ (tag1 : Nat → Nat) (L1 : List Nat) (F1 : Nat → va_E), TH G tt A s tag1 L1 F1 H1 locs1 ∧ q ∈ L1 ∧ tag1 q = t ∧ q ∉ L ∧ F1 q = e1 ∧ EXTR q tag L F (tag1, L1, F1) ∧ (∀ b ∈ L, tag1 b = tag b ∧ ∀ j : Nat, fld F1 b j = fld F b j ∧ elm F1 b j = elm F b j ∧ elr F1 b j = elr F b j) := by
  have hn := pl_nin hD
  have hne : ∀ b ∈ L, b ≠ q := fun b hb h => hn (h ▸ hb)
  rw [va_pl_push hn] at hP hD
  refine ⟨tup tag q t, L ++ [q], va_up F q e1, ⟨hP, hD, hS, fun b hb => ?_⟩, by simp, tup_self, hn, by rw [va_up_self], ⟨fun b hb => ⟨by simp [hb], fun h => tup_ne h⟩, fun b j hb h => ?_⟩, fun b hb => ⟨tup_ne (hne b hb), fun j => ?_⟩⟩
  · by_cases h : b = q
    · subst h
      rw [va_up_self, tup_self]
      exact ho
    · have hb2 : b ∈ L := by
        rcases List.mem_append.mp hb with h1 | h1
        · exact h1
        · exact absurd (List.mem_singleton.mp h1) h
      rw [va_up_ne _ _ h, tup_ne h]
      exact okE_g (fun b1 h1 _ => ⟨by simp [h1], tup_ne (hne b1 h1)⟩) (hT.2.2.2 b hb2)
  · simp [fld, elm, elr, va_up, h]
  · simp [fld, elm, elr, va_up, hne b hb]
theorem t_new (X : CX p s m args meth c cc nL own rt G A Ts) (hT : TH G tt A s tag L F H locs) {C : String} {T : u_T} {N ci index : Nat} (ty0 : Nat → FieldType) (hty : ∀ k, k < N → parseFieldDescriptor (T k).2.2.1 = some (ty0 k)) (hin : ∀ w ∈ u_ws C T N, w ∈ wsL_law) (h1 : Cond.classLink own index C ∈ wsL_law) (h2 : Cond.instantiable C N ∈ wsL_law) (h3 : Cond.initialized C ∈ wsL_law) (hc : vwCl[ci]? = some (C, T, N)) {fs : List Value} (hfs : (List.range N).all (fun j => decide (defaultValue (ty0 j) = vp_V fs j)) = true) (hcells : cells + 1 ≤ R.cells) (hslots : slots + N ≤ R.slots) (hdg : decode cc pc = .ok (.new index, 3)) {t : Nat} {ts : List FT} (hi : tt t = .inl (ci, ts)) (hlen : fs.length = ts.length) (hany : ts.all (fun f => f.1 == 4) = true)
    (kk : ∀ (q : Nat) (tag1 : Nat → Nat) (L1 : List Nat) (F1 : Nat → va_E) (H1 : Heap), TH G tt A s tag1 L1 F1 H1 locs → q ∈ L1 → tag1 q = t → q ∉ L → F1 q = .inr (ci, fs) → EXTR q tag L F (tag1, L1, F1) → (∀ b ∈ L, tag1 b = tag b ∧ ∀ j : Nat, fld F1 b j = fld F b j ∧ elm F1 b j = elm F b j ∧ elr F1 b j = elr F b j) → W p l e R s m args below meth c H1 locs (cells + 1) (slots + N) Q (F0 m (pc + 3) ls (.ref q :: rest))) : W p l e R s m args below meth c H locs cells slots Q (F0 m pc ls rest) := by
  refine m_new X hT.1 hT.2.1 hT.2.2.1 ty0 hty hin h1 h2 h3 hc hfs hcells hslots hdg (fun q H1 hP hD hS => ?_)
  obtain ⟨tag1, L1, F1, g1, g2, g3, g4, g5, g6, g7⟩ := th_push (t := t) hT hP hD hS (by
    unfold okE
    rw [hi]
    refine ⟨fs, rfl, hlen, fun k t2 hk => ?_⟩
    have hk2 : k < fs.length := by rw [hlen]; exact (List.getElem?_eq_some_iff.mp hk).1
    refine ⟨fs[k], List.getElem?_eq_getElem hk2, ?_⟩
    have h4 : t2.1 = 4 := by simpa using List.all_eq_true.mp hany t2 (List.mem_of_getElem? hk)
    obtain ⟨k1, x1, y1⟩ := t2
    have h4 : k1 = 4 := h4
    subst h4
    trivial)
  exact kk q tag1 L1 F1 H1 g1 g2 g3 g4 g5 g6 g7
theorem t_newa (X : CX p s m args meth c cc nL own rt G A Ts) (hT : TH G tt A s tag L F H locs) {atype : ArrayType} (t0 : Nat) (ht : (TY G)[t0]? = some (G.2 t0, newarray.typeOf atype)) (hw : Cond.arrayClass (newarray.typeOf atype) ∈ wsL_law) {n : Int32} {N' : Nat} {a0 : vp_A} (ha : ∀ cA : ClassId, vp_cell cA a0 = arrV cA N' (fun _ => defaultValue (newarray.typeOf atype))) (hn : ¬ n < 0) (hN : n.toNatClampNeg = N') (hbytes : N' * componentBytes (newarray.typeOf atype) ≤ 536870912) (hcells : cells + 1 ≤ R.cells) (hslots : slots + N' ≤ R.slots) (hdg : decode cc pc = .ok (.newarray atype, 2)) {t : Nat} (ho : ∀ (tag1 : Nat → Nat) (L1 : List Nat), okE G tt tag1 L1 t (.inl (G.2 t0, a0)))
    (kk : ∀ (q : Nat) (tag1 : Nat → Nat) (L1 : List Nat) (F1 : Nat → va_E) (H1 : Heap), TH G tt A s tag1 L1 F1 H1 locs → q ∈ L1 → tag1 q = t → q ∉ L → F1 q = .inl (G.2 t0, a0) → EXTR q tag L F (tag1, L1, F1) → (∀ b ∈ L, tag1 b = tag b ∧ ∀ j : Nat, fld F1 b j = fld F b j ∧ elm F1 b j = elm F b j ∧ elr F1 b j = elr F b j) → W p l e R s m args below meth c H1 locs (cells + 1) (slots + N') Q (F0 m (pc + 2) ls (.ref q :: rest))) : W p l e R s m args below meth c H locs cells slots Q (F0 m pc ls (.int n :: rest)) := by
  refine m_newa X hT.1 hT.2.1 hT.2.2.1 t0 ht hw ha hn hN hbytes hcells hslots hdg (fun q H1 hP hD hS => ?_)
  obtain ⟨tag1, L1, F1, g1, g2, g3, g4, g5, g6, g7⟩ := th_push (t := t) hT hP hD hS (ho _ _)
  exact kk q tag1 L1 F1 H1 g1 g2 g3 g4 g5 g6 g7
theorem t_newo (X : CX p s m args meth c cc nL own rt G A Ts) (hT : TH G tt A s tag L F H locs) {index : Nat} (hw : Cond.classLink own index "YearSkins$State" ∈ wsL_law) {n : Int32} {N' : Nat} (hn : ¬ n < 0) (hN : n.toNatClampNeg = N') (hbytes : N' * 4 ≤ 536870912) (hcells : cells + 1 ≤ R.cells) (hslots : slots + N' ≤ R.slots) (hdg : decode cc pc = .ok (.anewarray index, 3)) {t : Nat} {iv : Nat → Int × Int} (hi : tt t = .inr (6, N', iv))
    (kk : ∀ (q : Nat) (tag1 : Nat → Nat) (L1 : List Nat) (F1 : Nat → va_E) (H1 : Heap), TH G tt A s tag1 L1 F1 H1 locs → q ∈ L1 → tag1 q = t → q ∉ L → EXTR q tag L F (tag1, L1, F1) → (∀ b ∈ L, tag1 b = tag b ∧ ∀ j : Nat, fld F1 b j = fld F b j ∧ elm F1 b j = elm F b j ∧ elr F1 b j = elr F b j) → W p l e R s m args below meth c H1 locs (cells + 1) (slots + N') Q (F0 m (pc + 3) ls (.ref q :: rest))) : W p l e R s m args below meth c H locs cells slots Q (F0 m pc ls (.int n :: rest)) := by
  refine m_newo X hT.1 hT.2.1 hT.2.2.1 hw hn hN hbytes hcells hslots hdg (fun q H1 hP hD hS => ?_)
  obtain ⟨tag1, L1, F1, g1, g2, g3, g4, g5, g6, g7⟩ := th_push (t := t) hT hP hD hS (by unfold okE; rw [hi]; exact ⟨_, rfl⟩)
  exact kk q tag1 L1 F1 H1 g1 g2 g3 g4 g6 g7
theorem t_ast (X : CX p s m args meth c cc nL own rt G A Ts) (hT : TH G tt A s tag L F H locs) (ha : a ∈ L) {t : Nat} (ht : tag a = t) {n : Nat} {iv : Nat → Int × Int} (hi : tt t = .inr (6, n, iv)) {v : Nat} (hv : v ∈ L) {tv : Nat} (htv : tag v = tv) {ts : List FT} (hiv : tt tv = .inl (4, ts)) {i : Int32} (hin : vp_in i n) (hdg : decode cc pc = .ok (.aastore, 1))
    (kk : ∀ (F1 : Nat → va_E) (H1 : Heap) (locs1 : List Loc), TH G tt A s tag L F1 H1 locs1 → elr F1 a i.toNatClampNeg = some v → (∀ j : Nat, j ≠ i.toNatClampNeg → elr F1 a j = elr F a j) → (∀ b j : Nat, b ≠ a → fld F1 b j = fld F b j ∧ elm F1 b j = elm F b j ∧ elr F1 b j = elr F b j) → W p l e R s m args below meth c H1 locs1 cells slots Q (F0 m (pc + 1) ls rest)) : W p l e R s m args below meth c H locs cells slots Q (F0 m pc ls (.ref v :: .int i :: .ref a :: rest)) := by
  obtain ⟨q0, hq⟩ := th_at hT ha
  obtain ⟨qk, hk⟩ := th_at hT hv
  obtain ⟨f, hf⟩ := (th_arr hT ha ht hi : okA G tag L (6, n, iv) (F a))
  obtain ⟨fs, hfs, -⟩ := th_obj hT hv htv hiv
  have hq2 := hq
  rw [hf] at hq2
  rw [hfs] at hk
  refine va_astq (D := G.1) X.1.1 X.1.2.1 X.2.2.1 hT.1 hT.2.1 hT.2.2.1 q0 4 qk 4 hq2 rfl hk rfl hin hdg (fun H1 locs1 hP hD hS => ?_)
  refine kk (va_up F a (.inl (G.2 4, n, .inr (.inr (.inr (.inr (va_up f i.toNatClampNeg (some v)))))))) H1 locs1 (th_up (D := G.1) hT ha hq hP hD hS (by unfold okE; rw [ht, hi]; exact ⟨_, rfl⟩)) ?_ ?_ ?_
  · simp [elr, va_up]
  · intro j hj
    simp [elr, va_up, hf, hj]
  · intro b j hb
    simp [fld, elm, elr, va_up, hb]
theorem t_putF (X : CX p s m args meth c cc nL own rt G A Ts) (hm : meth.name = "<init>") (hT : TH G tt A s tag L F H locs) (ha : a ∈ L) {t : Nat} (ht : tag a = t) {ci : Nat} {ts : List FT} (hi : tt t = .inl (ci, ts)) {C : String} {T : u_T} {N index : Nat} (ty0 : Nat → FieldType) (hty : ∀ k, k < N → parseFieldDescriptor (T k).2.2.1 = some (ty0 k)) (hnm : ∀ a, a < N → ∀ b, b < N → a ≠ b → (T a).2.1 ≠ (T b).2.1) (hc : vwCl[ci]? = some (C, T, N)) (k : Nat) (hk : k < N) (hw : Cond.fieldLink own index (T k).1 (T k).2.1 (T k).2.2.1 ∈ wsL_law) (hin : ∀ w ∈ u_ws C T N, w ∈ wsL_law) (hfin : (T k).2.2.2 = true) (hdecl : (T k).1 = own) {v : Value} (hn : narrow (ty0 k) v = v) (hfit : fits (ty0 k) v = true) {ft : FT} (hf : ts[k]? = some ft) (hvo : okV tag L ft v) (hdg : decode cc pc = .ok (.putfield index, 3))
    (kk : ∀ (F1 : Nat → va_E) (H1 : Heap) (locs1 : List Loc), TH G tt A s tag L F1 H1 locs1 → fld F1 a k = v → (∀ j : Nat, j ≠ k → fld F1 a j = fld F a j) → (∀ b j : Nat, b ≠ a → fld F1 b j = fld F b j ∧ elm F1 b j = elm F b j ∧ elr F1 b j = elr F b j) → W p l e R s m args below meth c H1 locs1 cells slots Q (F0 m (pc + 3) ls rest)) : W p l e R s m args below meth c H locs cells slots Q (F0 m pc ls (v :: .ref a :: rest)) := by
  obtain ⟨q0, hq⟩ := th_at hT ha
  obtain ⟨fs, hfs, hlen, hok⟩ := th_obj hT ha ht hi
  obtain ⟨v0, hv0, -⟩ := hok k ft hf
  have hkl : k < fs.length := (List.getElem?_eq_some_iff.mp hv0).1
  have hq2 := hq
  rw [hfs] at hq2
  refine m_putF X hm hT.1 hT.2.1 hT.2.2.1 ty0 hty hnm q0 hq2 hc k hk hw hin hfin hdecl hn hfit hkl rfl hdg (fun H1 locs1 hP hD hS => ?_)
  have ho : okE G tt tag L (tag a) (.inr (ci, fs.set k v)) := by
    unfold okE
    rw [ht, hi]
    refine ⟨_, rfl, by rw [List.length_set]; exact hlen, fun j t2 hj => ?_⟩
    by_cases h : j = k
    · subst h
      rw [hf] at hj
      cases hj
      exact ⟨v, by simp [hkl], hvo⟩
    · obtain ⟨v2, h2, h3⟩ := hok j t2 hj
      exact ⟨v2, by rw [List.getElem?_set_ne (Ne.symm h)]; exact h2, h3⟩
  refine kk (va_up F a (.inr (ci, fs.set k v))) H1 locs1 (th_up (D := G.1) hT ha hq hP hD hS ho) ?_ ?_ ?_
  · simp [fld, va_up, List.getD, hkl]
  · intro j hj
    simp [fld, va_up, hfs, List.getD, List.getElem?_set_ne (Ne.symm hj)]
  · intro b j hb
    simp [fld, elm, elr, va_up, hb]
theorem t_putX (X : CX p s m args meth c cc nL own rt G A Ts) (hT : TH G tt A s tag L F H locs) (ha : a ∈ L) {t : Nat} (ht : tag a = t) {ci : Nat} {ts : List FT} (hi : tt t = .inl (ci, ts)) {C : String} {T : u_T} {N index : Nat} (ty0 : Nat → FieldType) (hty : ∀ k, k < N → parseFieldDescriptor (T k).2.2.1 = some (ty0 k)) (hnm : ∀ a, a < N → ∀ b, b < N → a ≠ b → (T a).2.1 ≠ (T b).2.1) (hc : vwCl[ci]? = some (C, T, N)) (k : Nat) (hk : k < N) (hw : Cond.fieldLink own index (T k).1 (T k).2.1 (T k).2.2.1 ∈ wsL_law) (hin : ∀ w ∈ u_ws C T N, w ∈ wsL_law) (hfin : (T k).2.2.2 = false) {v : Value} (hn : narrow (ty0 k) v = v) (hfit : fits (ty0 k) v = true) {ft : FT} (hf : ts[k]? = some ft) (hvo : okV tag L ft v) (hdg : decode cc pc = .ok (.putfield index, 3))
    (kk : ∀ (F1 : Nat → va_E) (H1 : Heap) (locs1 : List Loc), TH G tt A s tag L F1 H1 locs1 → fld F1 a k = v → (∀ j : Nat, j ≠ k → fld F1 a j = fld F a j) → (∀ b j : Nat, b ≠ a → fld F1 b j = fld F b j ∧ elm F1 b j = elm F b j ∧ elr F1 b j = elr F b j) → W p l e R s m args below meth c H1 locs1 cells slots Q (F0 m (pc + 3) ls rest)) : W p l e R s m args below meth c H locs cells slots Q (F0 m pc ls (v :: .ref a :: rest)) := by
  obtain ⟨q0, hq⟩ := th_at hT ha
  obtain ⟨fs, hfs, hlen, hok⟩ := th_obj hT ha ht hi
  obtain ⟨v0, hv0, -⟩ := hok k ft hf
  have hkl : k < fs.length := (List.getElem?_eq_some_iff.mp hv0).1
  have hq2 := hq
  rw [hfs] at hq2
  refine m_put X hT.1 hT.2.1 hT.2.2.1 ty0 hty hnm q0 hq2 hc k hk hw hin hfin hn hfit hkl rfl hdg (fun H1 locs1 hP hD hS => ?_)
  have ho : okE G tt tag L (tag a) (.inr (ci, fs.set k v)) := by
    unfold okE
    rw [ht, hi]
    refine ⟨_, rfl, by rw [List.length_set]; exact hlen, fun j t2 hj => ?_⟩
    by_cases h : j = k
    · subst h
      rw [hf] at hj
      cases hj
      exact ⟨v, by simp [hkl], hvo⟩
    · obtain ⟨v2, h2, h3⟩ := hok j t2 hj
      exact ⟨v2, by rw [List.getElem?_set_ne (Ne.symm h)]; exact h2, h3⟩
  refine kk (va_up F a (.inr (ci, fs.set k v))) H1 locs1 (th_up (D := G.1) hT ha hq hP hD hS ho) ?_ ?_ ?_
  · simp [fld, va_up, List.getD, hkl]
  · intro j hj
    simp [fld, va_up, hfs, List.getD, List.getElem?_set_ne (Ne.symm hj)]
  · intro b j hb
    simp [fld, elm, elr, va_up, hb]
/-- another tag for a cell that nobody links to by its old one -/
theorem th_re (hT : TH G tt A s tag L F H locs) {r t : Nat} (hr : tag a = r) (hn : ∀ t1 : Nat, ¬ lk (tt t1) r) (ho : okE G tt (tup tag a t) L t (F a)) : TH G tt A s (tup tag a t) L F H locs := by
  refine ⟨hT.1, hT.2.1, hT.2.2.1, fun b hb => ?_⟩
  by_cases h : b = a
  · subst h
    rw [tup_self]
    exact ho
  · rw [tup_ne h]
    exact okE_g (fun c1 h1 hl => ⟨h1, tup_ne (fun q => by subst q; rw [hr] at hl; exact hn _ hl)⟩) (hT.2.2.2 b hb)
/-- an object whose fields are all there -/
theorem th_done (hT : TH G tt A s tag L F H locs) (ha : a ∈ L) {r t : Nat} (hr : tag a = r) {ci : Nat} {ts tr : List FT} (hir : tt r = .inl (ci, tr)) (hit : tt t = .inl (ci, ts)) (hlen : tr.length = ts.length) (hn : ∀ t1 : Nat, ¬ lk (tt t1) r) (ho : ∀ (k : Nat) (f : FT), ts[k]? = some f → okV (tup tag a t) L f (fld F a k)) : TH G tt A s (tup tag a t) L F H locs := by
  refine th_re hT hr hn ?_
  obtain ⟨fs, hfs, hl, hok⟩ := th_obj hT ha hr hir
  unfold okE
  rw [hit]
  refine ⟨fs, hfs, by rw [hl, hlen], fun k f hk => ?_⟩
  have h1 : k < fs.length := by rw [hl, hlen]; exact (List.getElem?_eq_some_iff.mp hk).1
  refine ⟨fs[k], List.getElem?_eq_getElem h1, ?_⟩
  have h2 := ho k f hk
  have e1 : fld F a k = fs[k] := by
    unfold fld
    rw [hfs]
    simp [List.getD, h1]
  rw [e1] at h2
  exact h2
theorem th_doneA (hT : TH G tt A s tag L F H locs) (ha : a ∈ L) {r t n : Nat} (hr : tag a = r) {iv iw : Nat → Int × Int} (hir : tt r = .inr (6, n, iv)) (hit : tt t = .inr (4, n, iw)) (hn : ∀ t1 : Nat, ¬ lk (tt t1) r) (ho : ∀ j : Nat, j < n → ∃ b : Nat, elr F a j = some b ∧ b ∈ L ∧ (tup tag a t b : Int) = (iw j).1) : TH G tt A s (tup tag a t) L F H locs := by
  refine th_re hT hr hn ?_
  obtain ⟨f, hf⟩ := (th_arr hT ha hr hir : okA G tag L (6, n, iv) (F a))
  unfold okE
  rw [hit]
  refine ⟨f, hf, fun j hj => ?_⟩
  obtain ⟨b, h1, h2, h3⟩ := ho j hj
  have e1 : elr F a j = f j := by simp [elr, hf]
  exact ⟨b, e1.symm.trans h1, h2, h3⟩
variable {y : MethodName} {cd : ByteArray} {mL : Nat} {rt2 : Option FieldType} {rm : Room} {As : List Value} {b : Nat} {index n : Nat} {lv : List (Nat × Value)}
def TMa (l : Launch) (y : MethodName) (cd : ByteArray) (mL : Nat) (rm : Room) (G : KG) (tt : TT) (tag : Nat → Nat) (L : List Nat) (F : Nat → va_E) (av : List Value) (post : TU → Prop) : Prop :=
  ∀ sz : Nat, Met l y (.code y cd mL none :: wsL_law) rm (va_Pc av (Pw G (va_pl L F) sz)) (va_Qv (fun u => okT G tt u.1 u.2.1 u.2.2 ∧ post u) (fun u t => Bw G (va_A (va_pl L F) sz) (va_pl u.2.1 u.2.2) t) (va_A (va_pl L F) sz)) rm.cells rm.slots (va_A (va_pl L F) sz)
def TMb (l : Launch) (y : MethodName) (cd : ByteArray) (mL : Nat) (rm : Room) (G : KG) (tt : TT) (tag : Nat → Nat) (L : List Nat) (F : Nat → va_E) (av : List Value) (post : Int32 → TU → Prop) : Prop :=
  ∀ sz : Nat, Met l y (.code y cd mL (some .int) :: wsL_law) rm (va_Pc av (Pw G (va_pl L F) sz)) (va_Qi (fun r u => okT G tt u.1 u.2.1 u.2.2 ∧ post r u) (fun u t => Bw G (va_A (va_pl L F) sz) (va_pl u.2.1 u.2.2) t) (va_A (va_pl L F) sz)) rm.cells rm.slots (va_A (va_pl L F) sz)
theorem th_backa {u : TU} {H1 : Heap} {locs1 : List Loc} (hT : TH G tt A s tag L F H locs) (hA : ∀ q : Nat, s.heap.size ≤ q → A q) (hP : va_P G.1 vwCl (va_pl u.2.1 u.2.2) H1) (hD : va_D (va_A (va_pl L F) H.size) (va_pl u.2.1 u.2.2)) (hS : va_S A s.heap H1 locs1) (ho : okT G tt u.1 u.2.1 u.2.2) : TH G tt A s u.1 u.2.1 u.2.2 H1 locs1 :=
  ⟨hP, hD.weaken (fun _ _ _ h => th_all hT hA _ h), hS, ho⟩
theorem t_caI (X : CX p s m args meth c cc nL own rt G A Ts) (hT : TH G tt A s tag L F H locs) {post : TU → Prop} (K : TMa l y cd mL rm G tt tag L F (.ref b :: As) post)
    (v1 : Cond.methodLink own index y ∈ wsL_law) (v2 : Cond.instanceMethod y ∈ wsL_law) (v4 : Cond.initialized y.cls ∈ wsL_law) (v5 : Cond.code y cd mL none ∈ wsL_law) (hy1 : y.name = "<init>")
    (hd : y.cls ≠ "java/lang/invoke/MethodHandle" ∧ y.cls ≠ "java/lang/invoke/VarHandle" ∧ (parseMethodDescriptor y.desc).map (fun d => d.parameters.length) = some n) (hRm : rm.frames + 1 ≤ R.frames ∧ 8 + (mL + 11) + rm.locals ≤ R.locals) (hls : lv_has ls nL lv) (hst : st = As.reverse ++ .ref b :: rest) (hAs : As.length = n) (hW : (rest.map fun v => v.category).sum ≤ 8) (hdg : decode cc pc = .ok (.invokespecial index, 3)) (hf : cells + rm.cells ≤ R.cells ∧ slots + rm.slots ≤ R.slots)
    (kk : ∀ (u : TU) (H1 : Heap) (locs1 : List Loc), TH G tt A s u.1 u.2.1 u.2.2 H1 locs1 → post u → W p l e R s m args below meth c H1 locs1 (cells + rm.cells) (slots + rm.slots) Q (F0 m (pc + 3) ls rest)) : W p l e R s m args below meth c H locs cells slots Q (F0 m pc ls st) := by
  subst hst
  have hFc := th_all hT X.2.2.2.2.1
  have hG : GoodIn Ts (.code y cd mL none :: wsL_law) := gT X.2.1 (fun w hw => by
    rcases List.mem_cons.mp hw with rfl | hw
    · exact v5
    · exact hw)
  refine va_callv (va_runI (As := As) (rest := rest) X.1 (K H.size) (cwI n X.1.2.2.2.2 hG rfl rfl rfl (X.1.2.2.2.2 _ (X.2.1 _ v4)) (X.1.2.2.2.2 _ (X.2.1 _ v1)) (X.1.2.2.2.2 _ (X.2.1 _ v2)) hy1 hd hRm) ⟨Pw_blind, fun U hU hW => m_pre (U0 := s) (av := .ref b :: As) X.2.2.1 X.2.2.2.1 hT.1 hT.2.1 hT.2.2.1 hFc U hU hW⟩ rfl hAs hls.1 rfl (lv_room hW) hdg hf) hT.2.2.1 (fun q _ h => hFc q h) hFc (fun u t H1 locs1 ht hvm hw hB hz1 hk1 hS1 => ?_)
  obtain ⟨hP1, hD1⟩ := hB
  rw [ht] at hP1
  exact kk u H1 locs1 (th_backa hT X.2.2.2.2.1 hP1 hD1 hS1 hw.1) hw.2
theorem t_caN (X : CX p s m args meth c cc nL own rt G A Ts) (hT : TH G tt A s tag L F H locs) {post : TU → Prop} {host : String} (K : TMa l y cd mL rm G tt tag L F (.ref b :: As) post)
    (v1 : (own, index, y, host) ∈ nestM) (v2 : Cond.instanceMethod y ∈ wsL_law) (v4 : Cond.initialized y.cls ∈ wsL_law) (v5 : Cond.code y cd mL none ∈ wsL_law) (hy1 : y.name = "<init>")
    (hd : y.cls ≠ "java/lang/invoke/MethodHandle" ∧ y.cls ≠ "java/lang/invoke/VarHandle" ∧ (parseMethodDescriptor y.desc).map (fun d => d.parameters.length) = some n) (hRm : rm.frames + 1 ≤ R.frames ∧ 8 + (mL + 11) + rm.locals ≤ R.locals) (hls : lv_has ls nL lv) (hst : st = As.reverse ++ .ref b :: rest) (hAs : As.length = n) (hW : (rest.map fun v => v.category).sum ≤ 8) (hdg : decode cc pc = .ok (.invokespecial index, 3)) (hf : cells + rm.cells ≤ R.cells ∧ slots + rm.slots ≤ R.slots)
    (kk : ∀ (u : TU) (H1 : Heap) (locs1 : List Loc), TH G tt A s u.1 u.2.1 u.2.2 H1 locs1 → post u → W p l e R s m args below meth c H1 locs1 (cells + rm.cells) (slots + rm.slots) Q (F0 m (pc + 3) ls rest)) : W p l e R s m args below meth c H locs cells slots Q (F0 m pc ls st) := by
  subst hst
  have hFc := th_all hT X.2.2.2.2.1
  have hG : GoodIn Ts (.code y cd mL none :: wsL_law) := gT X.2.1 (fun w hw => by
    rcases List.mem_cons.mp hw with rfl | hw
    · exact v5
    · exact hw)
  refine va_callv (va_runIN (host := host) (As := As) (rest := rest) X.1 (K H.size) ⟨va_cnB n X.1.2.2.2.2 hG rfl rfl rfl (X.2.2.2.1.1.1 _ v1) (X.1.2.2.2.2 _ (X.2.1 _ v4)) hd hRm, hy1, X.1.2.2.2.2 _ (X.2.1 _ v2)⟩ ⟨Pw_blind, fun U hU hW => m_pre (U0 := s) (av := .ref b :: As) X.2.2.1 X.2.2.2.1 hT.1 hT.2.1 hT.2.2.1 hFc U hU hW⟩ rfl hAs hls.1 rfl (lv_room hW) hdg hf) hT.2.2.1 (fun q _ h => hFc q h) hFc (fun u t H1 locs1 ht hvm hw hB hz1 hk1 hS1 => ?_)
  obtain ⟨hP1, hD1⟩ := hB
  rw [ht] at hP1
  exact kk u H1 locs1 (th_backa hT X.2.2.2.2.1 hP1 hD1 hS1 hw.1) hw.2
theorem t_cbV (X : CX p s m args meth c cc nL own rt G A Ts) (hT : TH G tt A s tag L F H locs) {post : Int32 → TU → Prop} (K : TMb l y cd mL rm G tt tag L F (.ref b :: As) post)
    (hb : b ∈ L) {t : Nat} (ht : tag b = t) {ci : Nat} {ts : List FT} (hi : tt t = .inl (ci, ts)) {C : String} {T : u_T} {N : Nat} (hc : vwCl[ci]? = some (C, T, N))
    (v1 : Cond.methodLink own index y ∈ wsL_law) (v2 : Cond.instanceMethod y ∈ wsL_law) (v3 : Cond.selects C y y ∈ wsL_law) (v4 : Cond.initialized C ∈ wsL_law) (v5 : Cond.code y cd mL (some .int) ∈ wsL_law)
    (hd : y.cls = C ∧ y.cls ≠ "java/lang/invoke/MethodHandle" ∧ y.cls ≠ "java/lang/invoke/VarHandle" ∧ (parseMethodDescriptor y.desc).map (fun d => d.parameters.length) = some n) (hRm : rm.frames + 1 ≤ R.frames ∧ 8 + (mL + 11) + rm.locals ≤ R.locals) (hls : lv_has ls nL lv) (hst : st = As.reverse ++ .ref b :: rest) (hAs : As.length = n) (hW : (rest.map fun v => v.category).sum ≤ 8) (hdg : decode cc pc = .ok (.invokevirtual index, 3)) (hf : cells + rm.cells ≤ R.cells ∧ slots + rm.slots ≤ R.slots)
    (kk : ∀ (r : Int32) (u : TU) (H1 : Heap) (locs1 : List Loc), TH G tt A s u.1 u.2.1 u.2.2 H1 locs1 → post r u → W p l e R s m args below meth c H1 locs1 (cells + rm.cells) (slots + rm.slots) Q (F0 m (pc + 3) ls (.int r :: rest))) : W p l e R s m args below meth c H locs cells slots Q (F0 m pc ls st) := by
  subst hst
  obtain ⟨q0, hq⟩ := th_at hT hb
  obtain ⟨fs, hfs, -⟩ := th_obj hT hb ht hi
  rw [hfs] at hq
  have hFc := th_all hT X.2.2.2.2.1
  have hG : GoodIn Ts (wsV own index C y (.code y cd mL (some .int) :: wsL_law)) := gT X.2.1 (fun w hw => by
    simp only [wsV, List.cons_append, List.nil_append, List.mem_cons] at hw
    rcases hw with rfl | rfl | rfl | rfl | rfl | hw
    · exact v1
    · exact v2
    · exact v3
    · exact v4
    · exact v5
    · exact hw)
  refine va_calli (va_runV (As := As) (rest := rest) X.1 (K H.size) (cwV n X.1.2.2.2.2 hG rfl rfl rfl hd hRm) ⟨Pw_blind, va_recv X.2.2.1 hT.1 hc hq, fun U hU hW => m_pre (U0 := s) (av := .ref b :: As) X.2.2.1 X.2.2.2.1 hT.1 hT.2.1 hT.2.2.1 hFc U hU hW⟩ rfl hAs hls.1 rfl (lv_room hW) hdg hf) hT.2.2.1 (fun q _ h => hFc q h) hFc (fun r u t H1 locs1 ht hvm hw hB hz1 hk1 hS1 => ?_)
  obtain ⟨hP1, hD1⟩ := hB
  rw [ht] at hP1
  exact kk r u H1 locs1 (th_backa hT X.2.2.2.2.1 hP1 hD1 hS1 hw.1) hw.2
theorem t_bodya {av : List Value} {post : TU → Prop} (hy : plainName y.cls = true) (hlen : (lg_sl av).length ≤ mL) (ho : okT G tt tag L F)
    (body : ∀ (p : Program) (e : Env) (s : State) (m : MethodId) (args : Array Value) (below : List Frame) (meth : Method) (c : Code) (ls : Array Slot) (A : Nat → Prop) (Q : State → Prop), Q = MQ below (va_Qv (fun u => okT G tt u.1 u.2.1 u.2.2 ∧ post u) (fun u t => Bw G A (va_pl u.2.1 u.2.2) t) A) args s rm.cells rm.slots A → CX p s m args meth c cd mL y.cls none G A (.code y cd mL none :: wsL_law) → meth.name = y.name → TH G tt A s tag L F s.heap [] → lv_has ls mL (lv_args 0 av) → W p l e rm s m args below meth c s.heap [] 0 0 Q (F0 m 0 ls [])) :
    TMa l y cd mL rm G tt tag L F av post := by
  intro sz
  refine m_body (Qf := fun A => va_Qv (fun u => okT G tt u.1 u.2.1 u.2.2 ∧ post u) (fun u t => Bw G A (va_pl u.2.1 u.2.2) t) A) hy hlen ?_
  intro p e s m args below meth c ls A X hi hP hD hS hl
  exact body p e s m args below meth c ls A _ rfl X hi ⟨hP, hD, hS, ho⟩ hl
theorem t_bodyb {av : List Value} {post : Int32 → TU → Prop} (hy : plainName y.cls = true) (hlen : (lg_sl av).length ≤ mL) (ho : okT G tt tag L F)
    (body : ∀ (p : Program) (e : Env) (s : State) (m : MethodId) (args : Array Value) (below : List Frame) (meth : Method) (c : Code) (ls : Array Slot) (A : Nat → Prop) (Q : State → Prop), Q = MQ below (va_Qi (fun r u => okT G tt u.1 u.2.1 u.2.2 ∧ post r u) (fun u t => Bw G A (va_pl u.2.1 u.2.2) t) A) args s rm.cells rm.slots A → CX p s m args meth c cd mL y.cls (some .int) G A (.code y cd mL (some .int) :: wsL_law) → TH G tt A s tag L F s.heap [] → lv_has ls mL (lv_args 0 av) → W p l e rm s m args below meth c s.heap [] 0 0 Q (F0 m 0 ls [])) :
    TMb l y cd mL rm G tt tag L F av post := by
  intro sz
  refine m_body (Qf := fun A => va_Qi (fun r u => okT G tt u.1 u.2.1 u.2.2 ∧ post r u) (fun u t => Bw G A (va_pl u.2.1 u.2.2) t) A) hy hlen ?_
  intro p e s m args below meth c ls A X hi hP hD hS hl
  exact body p e s m args below meth c ls A _ rfl X ⟨hP, hD, hS, ho⟩ hl
theorem t_vreta {post : TU → Prop} {k n : Nat} (hQ : Q = MQ below (va_Qv (fun u => okT G tt u.1 u.2.1 u.2.2 ∧ post u) (fun u t => Bw G A (va_pl u.2.1 u.2.2) t) A) args s k n A) (X : CX p s m args meth c cc nL own none G A Ts) (hT : TH G tt A s tag L F H locs) (hp : post (tag, L, F)) (h1 : cells ≤ k) (h2 : slots ≤ n) (hdg : decode cc pc = .ok (.return_, 1)) :
    W p l e R s m args below meth c H locs cells slots Q (F0 m pc ls []) := by
  rw [hQ]
  refine W.widen h1 h2 ?_
  exact W.vret X.1.1 X.1.2.1 X.2.2.2.2.2.1 (fun t ht _ => ⟨⟨(tag, L, F), rfl, ⟨hT.2.2.2, hp⟩, by rw [ht]; exact hT.1, hT.2.1⟩, hT.2.2.1.F ht⟩) hT.2.2.1.2.2 hdg X.2.2.2.2.2.2
theorem t_iretb {post : Int32 → TU → Prop} {v : Int32} {k n : Nat} (hQ : Q = MQ below (va_Qi (fun r u => okT G tt u.1 u.2.1 u.2.2 ∧ post r u) (fun u t => Bw G A (va_pl u.2.1 u.2.2) t) A) args s k n A) (X : CX p s m args meth c cc nL own (some .int) G A Ts) (hT : TH G tt A s tag L F H locs) (hp : post v (tag, L, F)) (h1 : cells ≤ k) (h2 : slots ≤ n) (hdg : decode cc pc = .ok (.ireturn, 1)) :
    W p l e R s m args below meth c H locs cells slots Q (F0 m pc ls [.int v]) := by
  rw [hQ]
  refine W.widen h1 h2 ?_
  exact W.iret X.1.1 X.1.2.1 X.2.2.2.2.2.1 (fun t ht _ => ⟨⟨v, (tag, L, F), rfl, ⟨hT.2.2.2, hp⟩, by rw [ht]; exact hT.1, hT.2.1⟩, hT.2.2.1.F ht⟩) hT.2.2.1.2.2 hdg X.2.2.2.2.2.2
end AL
theorem extr_re {p : Nat} {tag0 tag : Nat → Nat} {L0 L : List Nat} {Fo F : Nat → va_E} {t : Nat} (h : EXTR p tag0 L0 Fo (tag, L, F)) : EXTR p tag0 L0 Fo (tup tag p t, L, F) := ⟨fun b hb => ⟨(h.1 b hb).1, fun n => (tup_ne n).trans ((h.1 b hb).2 n)⟩, h.2⟩
theorem extr_re2 {p a : Nat} {tag0 tag : Nat → Nat} {L0 L : List Nat} {Fo F : Nat → va_E} {t : Nat} (h : EXTR p tag0 L0 Fo (tag, L, F)) (hz : ∀ b ∈ L0, b ≠ a) : EXTR p tag0 L0 Fo (tup tag a t, L, F) := ⟨fun b hb => ⟨(h.1 b hb).1, fun n => (tup_ne (hz b hb)).trans ((h.1 b hb).2 n)⟩, h.2⟩
theorem rowIv0 (j : Nat) : (rowIv j).1 ≤ (0 : Int32).toInt ∧ (0 : Int32).toInt ≤ (rowIv j).2 := by
  unfold rowIv
  split
  · decide
  · split <;> decide
theorem rowIvM0 (j : Nat) : (rowIvM j).1 ≤ (0 : Int32).toInt ∧ (0 : Int32).toInt ≤ (rowIvM j).2 := rowIv0 (j % 212)
theorem trn {tag tag0 : Nat → Nat} {b t j k : Nat} (e : tag b = tag0 b) (n : tag0 b ≠ t ∨ j ≠ k) : tag b ≠ t ∨ j ≠ k := by rw [e]; exact n
theorem tra {tag tag0 : Nat → Nat} {b t : Nat} (e : tag b = tag0 b) (n : tag0 b ≠ t) : tag b ≠ t := by rw [e]; exact n
theorem msr_z {F : Nat → va_E} {xs xn : Nat} (h : ∀ j : Nat, elm F xs j = 0 ∧ elm F xn j = 0) : MSR F xs xn := by
  intro j
  unfold MSQ
  rw [(h j).1, (h j).2]
  exact ⟨fun _ => by decide, fun _ => by decide, fun q => absurd q (by decide)⟩
theorem nsr_z {F : Nat → va_E} {xs xn : Nat} (h : ∀ j : Nat, elm F xs j = 0) : NSR F xs xn := by
  intro j
  unfold NSQ
  rw [h j]
  exact ⟨fun q => absurd q (by decide), fun q => absurd q (by decide)⟩
/-- the same object by another tag that differs in its first field alone -/
theorem th_head {G : KG} {A : Nat → Prop} {s : State} {H : Heap} {locs : List Loc} {a : Nat} {tt : TT} {tag : Nat → Nat} {L : List Nat} {F : Nat → va_E} (hT : TH G tt A s tag L F H locs) (ha : a ∈ L) {r t : Nat} (hr : tag a = r) {ci : Nat} {f0 : FT} {lo hi : Int} {tl : List FT} (hir : tt r = .inl (ci, f0 :: tl)) (hit : tt t = .inl (ci, (0, lo, hi) :: tl)) (hn : ∀ t1 : Nat, ¬ lk (tt t1) r) {z : Int32} (hz : fld F a 0 = .int z) (h1 : lo ≤ z.toInt) (h2 : z.toInt ≤ hi) : TH G tt A s (tup tag a t) L F H locs := by
  refine th_re hT hr hn ?_
  obtain ⟨fs, hfs, hl, hok⟩ := th_obj hT ha hr hir
  unfold okE
  rw [hit]
  refine ⟨fs, hfs, by rw [hl]; simp, fun k f hk => ?_⟩
  match k, hk with
  | 0, hk =>
    obtain rfl := Option.some.inj (show some ((0, lo, hi) : FT) = some f from hk)
    obtain ⟨v, hv, -⟩ := hok 0 f0 rfl
    refine ⟨v, hv, z, ?_, h1, h2⟩
    rw [← hz]
    unfold fld
    rw [hfs]
    simp [List.getD, hv]
  | k + 1, hk =>
    obtain ⟨v, hv, ho⟩ := hok (k + 1) f hk
    refine ⟨v, hv, okV_g (fun b hb hl2 e1 => ⟨hb, tup_ne (fun q => ?_)⟩) ho⟩
    subst q
    exact hn r (by rw [hir]; exact ⟨f, List.mem_of_getElem? (show (f0 :: tl)[k + 1]? = some f from hk), hl2, by rw [← e1, hr]⟩)
def LT : List Int := [1, 2, 3, 4, 5, 6, 7, 8, 9, 10, 11, 12, 13, 14, 15, 16, 17, 18, 19, 20, 21, 22, 23, 24, 25, 27, 28, 29, 30, 31, 32, 33, 34, 35, 36, 37, 38, 39, 40, 41, 42, 43, 45]
theorem lk_in (t1 : Nat) (k : Int) (h : lk (ttC t1) k) : k ∈ LT := by
  unfold ttC at h
  split at h <;> first | (simp [lk] at h; done) | (simp [lk] at h; simp only [LT, List.mem_cons, List.not_mem_nil, or_false]; omega)
theorem nl_of {r : Nat} (h : (r : Int) ∉ LT) : ∀ t1 : Nat, ¬ lk (ttC t1) r := fun t1 q => h (lk_in t1 r q)
