/-! A TYPED HEAP: the cells at the addresses L, each of the sort that its tag says; ints within bounds, links to cells of a tag. Rows over it say nothing of single cells. -/
abbrev FT : Type := Nat × Int × Int
/-- (0, lo, hi): an int; (1, t, _): a link to a cell of tag t; (2, t, _): such a link or null; (3, _, _): a long; (4, _, _): anything -/
def okV (tag : Nat → Nat) (L : List Nat) (t : FT) (v : Value) : Prop :=
  match t.1 with
  | 0 => ∃ z : Int32, v = .int z ∧ t.2.1 ≤ z.toInt ∧ z.toInt ≤ t.2.2
  | 1 => ∃ b : Nat, v = .ref b ∧ b ∈ L ∧ (tag b : Int) = t.2.1
  | 2 => v = .null ∨ ∃ b : Nat, v = .ref b ∧ b ∈ L ∧ (tag b : Int) = t.2.1
  | 3 => ∃ z : Int64, v = .long z
  | _ => True
/-- an array's sort: its kind (place in TY), its length, the bounds of each element (of links: the tag) -/
abbrev AT : Type := Nat × Nat × (Nat → Int × Int)
def okA (G : KG) (tag : Nat → Nat) (L : List Nat) (t : AT) (e : va_E) : Prop :=
  match t.1 with
  | 2 => ∃ f : Nat → Int64, e = .inl (G.2 2, t.2.1, .inr (.inl f))
  | 4 => ∃ f : Nat → Option Nat, e = .inl (G.2 4, t.2.1, .inr (.inr (.inr (.inr f)))) ∧ ∀ j : Nat, j < t.2.1 → ∃ b : Nat, f j = some b ∧ b ∈ L ∧ (tag b : Int) = (t.2.2 j).1
  | 6 => ∃ f : Nat → Option Nat, e = .inl (G.2 4, t.2.1, .inr (.inr (.inr (.inr f))))
  | k => ∃ f : Nat → Int32, e = .inl (G.2 k, t.2.1, .inl f) ∧ ∀ j : Nat, j < t.2.1 → (t.2.2 j).1 ≤ (f j).toInt ∧ (f j).toInt ≤ (t.2.2 j).2
def okO (tag : Nat → Nat) (L : List Nat) (ci : Nat) (ts : List FT) (e : va_E) : Prop :=
  ∃ fs : List Value, e = .inr (ci, fs) ∧ fs.length = ts.length ∧ ∀ (k : Nat) (t : FT), ts[k]? = some t → ∃ v : Value, fs[k]? = some v ∧ okV tag L t v
/-- what each tag means -/
abbrev TT : Type := Nat → (Nat × List FT) ⊕ AT
def okE (G : KG) (tt : TT) (tag : Nat → Nat) (L : List Nat) (t : Nat) (e : va_E) : Prop :=
  match tt t with
  | .inl o => okO tag L o.1 o.2 e
  | .inr a => okA G tag L a e
def fld (F : Nat → va_E) (a k : Nat) : Value := match F a with
  | .inr o => o.2.getD k .null
  | _ => .null
def elm (F : Nat → va_E) (a j : Nat) : Int32 := match F a with
  | .inl (_, _, .inl f) => f j
  | _ => 0
def okT (G : KG) (tt : TT) (tag : Nat → Nat) (L : List Nat) (F : Nat → va_E) : Prop := ∀ a ∈ L, okE G tt tag L (tag a) (F a)
def TH (G : KG) (tt : TT) (A : Nat → Prop) (s : State) (tag : Nat → Nat) (L : List Nat) (F : Nat → va_E) (H : Heap) (locs : List Loc) : Prop :=
  va_P G.1 vwCl (va_pl L F) H ∧ va_D A (va_pl L F) ∧ va_S A s.heap H locs ∧ okT G tt tag L F
theorem okV_i {tag : Nat → Nat} {L : List Nat} {lo hi : Int} {v : Value} (h : okV tag L (0, lo, hi) v) : ∃ z : Int32, v = .int z ∧ lo ≤ z.toInt ∧ z.toInt ≤ hi := h
theorem okV_r {tag : Nat → Nat} {L : List Nat} {t : Int} {x : Int} {v : Value} (h : okV tag L (1, t, x) v) : ∃ b : Nat, v = .ref b ∧ b ∈ L ∧ (tag b : Int) = t := h
theorem okV_n {tag : Nat → Nat} {L : List Nat} {t : Int} {x : Int} {v : Value} (h : okV tag L (2, t, x) v) : v = .null ∨ ∃ b : Nat, v = .ref b ∧ b ∈ L ∧ (tag b : Int) = t := h
theorem tg_of {a t : Nat} (h : (a : Int) = (t : Int)) : a = t := Int.ofNat.inj h
section TB
variable {p : Program} {l : Launch} {e : Env} {R : Room} {s : State} {m : MethodId} {args : Array Value} {below : List Frame} {meth : Method} {c : Code} {H : Heap} {locs : List Loc} {cells slots : Nat} {Q : State → Prop}
variable {pc : Nat} {ls : Array Slot} {rest st : List Value} {cc : ByteArray} {nL : Nat} {own : String} {rt : Option FieldType} {G : KG} {A : Nat → Prop} {Ts : List Cond} {a : Nat} {tt : TT} {tag : Nat → Nat} {L : List Nat} {F : Nat → va_E}
theorem th_at (hT : TH G tt A s tag L F H locs) (ha : a ∈ L) : ∃ k : Nat, (va_pl L F)[k]? = some (a, F a) := va_pl_get (X := []) ha
theorem th_obj (hT : TH G tt A s tag L F H locs) (ha : a ∈ L) {t : Nat} (ht : tag a = t) {ci : Nat} {ts : List FT} (hi : tt t = .inl (ci, ts)) : okO tag L ci ts (F a) := by
  have h := hT.2.2.2 a ha
  rw [ht] at h
  unfold okE at h
  rw [hi] at h
  exact h
theorem th_arr (hT : TH G tt A s tag L F H locs) (ha : a ∈ L) {t : Nat} (ht : tag a = t) {x : AT} (hi : tt t = .inr x) : okA G tag L x (F a) := by
  have h := hT.2.2.2 a ha
  rw [ht] at h
  unfold okE at h
  rw [hi] at h
  exact h
theorem t_get (X : CX p s m args meth c cc nL own rt G A Ts) (hT : TH G tt A s tag L F H locs) (ha : a ∈ L) {t : Nat} (ht : tag a = t) {ci : Nat} {ts : List FT} (hi : tt t = .inl (ci, ts)) {C : String} {T : u_T} {N index : Nat} (hc : vwCl[ci]? = some (C, T, N)) (k : Nat) (hk : k < N) (hw : Cond.fieldLink own index (T k).1 (T k).2.1 (T k).2.2.1 ∈ wsL_law) (hin : ∀ w ∈ u_ws C T N, w ∈ wsL_law) {ft : FT} (hf : ts[k]? = some ft) (hdg : decode cc pc = .ok (.getfield index, 3))
    (kk : ∀ v : Value, fld F a k = v → okV tag L ft v → W p l e R s m args below meth c H locs cells slots Q (F0 m (pc + 3) ls (v :: rest))) : W p l e R s m args below meth c H locs cells slots Q (F0 m pc ls (.ref a :: rest)) := by
  obtain ⟨q0, hq⟩ := th_at hT ha
  obtain ⟨fs, hfs, hlen, hok⟩ := th_obj hT ha ht hi
  obtain ⟨v, hv, hvo⟩ := hok k ft hf
  rw [hfs] at hq
  refine m_get X hT.1 q0 hq hc k hk hw hin hv hdg (kk v ?_ hvo)
  unfold fld
  rw [hfs]
  simp [List.getD, hv]
theorem t_getN (X : CX p s m args meth c cc nL own rt G A Ts) (hT : TH G tt A s tag L F H locs) (ha : a ∈ L) {t : Nat} (ht : tag a = t) {ci : Nat} {ts : List FT} (hi : tt t = .inl (ci, ts)) {C : String} {T : u_T} {N index : Nat} {host : String} (hc : vwCl[ci]? = some (C, T, N)) (k : Nat) (hk : k < N) (hw : (own, index, (T k).1, (T k).2.1, (T k).2.2.1, host) ∈ nestF) (hin : ∀ w ∈ u_ws C T N, w ∈ wsL_law) {ft : FT} (hf : ts[k]? = some ft) (hdg : decode cc pc = .ok (.getfield index, 3))
    (kk : ∀ v : Value, fld F a k = v → okV tag L ft v → W p l e R s m args below meth c H locs cells slots Q (F0 m (pc + 3) ls (v :: rest))) : W p l e R s m args below meth c H locs cells slots Q (F0 m pc ls (.ref a :: rest)) := by
  obtain ⟨q0, hq⟩ := th_at hT ha
  obtain ⟨fs, hfs, hlen, hok⟩ := th_obj hT ha ht hi
  obtain ⟨v, hv, hvo⟩ := hok k ft hf
  rw [hfs] at hq
  refine m_getN X hT.1 q0 hq hc k hk hw hin hv hdg (kk v ?_ hvo)
  unfold fld
  rw [hfs]
  simp [List.getD, hv]
/-- what stays of the contents when one cell is written -/
theorem th_up {D : va_G} {e2 : va_E} {H1 : Heap} {locs1 : List Loc} (hT : TH G tt A s tag L F H locs) (ha : a ∈ L) {q0 : Nat} (hq : (va_pl L F)[q0]? = some (a, F a)) (hP : va_P G.1 vwCl ((va_pl L F).set q0 (a, e2)) H1) (hD : va_D A ((va_pl L F).set q0 (a, e2))) (hS : va_S A s.heap H1 locs1) (ho : okE G tt tag L (tag a) e2) : TH G tt A s tag L (va_up F a e2) H1 locs1 := by
  have e1 : (va_pl L F).set q0 (a, e2) = va_pl L (va_up F a e2) := va_pl_set (X := []) hT.2.1 ha hq
  rw [e1] at hP hD
  refine ⟨hP, hD, hS, fun b hb => ?_⟩
  by_cases h : b = a
  · subst h
    rw [va_up_self]
    exact ho
  · rw [va_up_ne _ _ h]
    exact hT.2.2.2 b hb
theorem t_put (X : CX p s m args meth c cc nL own rt G A Ts) (hT : TH G tt A s tag L F H locs) (ha : a ∈ L) {t : Nat} (ht : tag a = t) {ci : Nat} {ts : List FT} (hi : tt t = .inl (ci, ts)) {C : String} {T : u_T} {N index : Nat} (ty0 : Nat → FieldType) (hty : ∀ k, k < N → parseFieldDescriptor (T k).2.2.1 = some (ty0 k)) (hnm : ∀ a, a < N → ∀ b, b < N → a ≠ b → (T a).2.1 ≠ (T b).2.1) (hc : vwCl[ci]? = some (C, T, N)) (k : Nat) (hk : k < N) (hw : Cond.fieldLink own index (T k).1 (T k).2.1 (T k).2.2.1 ∈ wsL_law) (hin : ∀ w ∈ u_ws C T N, w ∈ wsL_law) (hfin : (T k).2.2.2 = false) {v : Value} (hn : narrow (ty0 k) v = v) (hfit : fits (ty0 k) v = true) {ft : FT} (hf : ts[k]? = some ft) (hvo : okV tag L ft v) (hdg : decode cc pc = .ok (.putfield index, 3))
    (kk : ∀ (F1 : Nat → va_E) (H1 : Heap) (locs1 : List Loc), TH G tt A s tag L F1 H1 locs1 → fld F1 a k = v → (∀ b j : Nat, (b ≠ a ∨ j ≠ k) → fld F1 b j = fld F b j) → (∀ b j : Nat, elm F1 b j = elm F b j) → W p l e R s m args below meth c H1 locs1 cells slots Q (F0 m (pc + 3) ls rest)) : W p l e R s m args below meth c H locs cells slots Q (F0 m pc ls (v :: .ref a :: rest)) := by
  obtain ⟨q0, hq⟩ := th_at hT ha
  obtain ⟨fs, hfs, hlen, hok⟩ := th_obj hT ha ht hi
  obtain ⟨v0, hv0, -⟩ := hok k ft hf
  have hkl : k < fs.length := (List.getElem?_eq_some_iff.mp hv0).1
  have hq2 := hq
  rw [hfs] at hq2
  refine m_put X hT.1 hT.2.1 hT.2.2.1 ty0 hty hnm q0 hq2 hc k hk hw hin hfin hn hfit hkl rfl hdg (fun H1 locs1 hP hD hS => ?_)
  have ho : okE G tt tag L (tag a) (.inr (ci, fs.set k v)) := by
    unfold okE
    rw [ht, hi]
    refine ⟨_, rfl, by rw [List.length_set]; exact hlen, fun j t2 hj => ?_⟩
    by_cases h : j = k
    · subst h
      rw [hf] at hj
      cases hj
      exact ⟨v, by simp [hkl], hvo⟩
    · obtain ⟨v2, h2, h3⟩ := hok j t2 hj
      exact ⟨v2, by rw [List.getElem?_set_ne (Ne.symm h)]; exact h2, h3⟩
  refine kk (va_up F a (.inr (ci, fs.set k v))) H1 locs1 (th_up (D := G.1) hT ha hq hP hD hS ho) ?_ ?_ ?_
  · simp [fld, va_up, List.getD, hkl]
  · intro b j h
    by_cases hb : b = a
    · subst hb
      have hj : j ≠ k := h.resolve_left (fun q => q rfl)
      simp [fld, va_up, hfs, List.getD, List.getElem?_set_ne (Ne.symm hj)]
    · simp [fld, va_up, hb]
  · intro b j
    by_cases hb : b = a
    · subst hb
      simp [elm, va_up, hfs]
    · simp [elm, va_up, hb]
end TB
section TA
variable {p : Program} {l : Launch} {e : Env} {R : Room} {s : State} {m : MethodId} {args : Array Value} {below : List Frame} {meth : Method} {c : Code} {H : Heap} {locs : List Loc} {cells slots : Nat} {Q : State → Prop}
variable {pc : Nat} {ls : Array Slot} {rest st : List Value} {cc : ByteArray} {nL : Nat} {own : String} {rt : Option FieldType} {G : KG} {A : Nat → Prop} {Ts : List Cond} {a : Nat} {tt : TT} {tag : Nat → Nat} {L : List Nat} {F : Nat → va_E}
theorem t_ild (X : CX p s m args meth c cc nL own rt G A Ts) (hT : TH G tt A s tag L F H locs) (ha : a ∈ L) {t : Nat} (ht : tag a = t) {n : Nat} {iv : Nat → Int × Int} (hi : tt t = .inr (0, n, iv)) {i : Int32} (hin : 0 ≤ i.toInt ∧ i.toInt < n) (hdg : decode cc pc = .ok (.iaload, 1))
    (kk : ∀ z : Int32, elm F a i.toNatClampNeg = z → (iv i.toNatClampNeg).1 ≤ z.toInt ∧ z.toInt ≤ (iv i.toNatClampNeg).2 → W p l e R s m args below meth c H locs cells slots Q (F0 m (pc + 1) ls (.int z :: rest))) : W p l e R s m args below meth c H locs cells slots Q (F0 m pc ls (.int i :: .ref a :: rest)) := by
  obtain ⟨q0, hq⟩ := th_at hT ha
  obtain ⟨f, hf, hok⟩ := (th_arr hT ha ht hi : okA G tag L (0, n, iv) (F a))
  have hv : vp_in i n := vp_in_iff.mpr hin
  have hj : i.toNatClampNeg < n := by have h := hv; unfold vp_in at h; omega
  rw [hf] at hq
  exact va_iald (D := G.1) X.1.1 X.1.2.1 X.2.2.1 hT.1 q0 0 hq rfl hv hdg (kk (f i.toNatClampNeg) (by simp [elm, hf]) (hok _ hj))
theorem t_zld (X : CX p s m args meth c cc nL own rt G A Ts) (hT : TH G tt A s tag L F H locs) (ha : a ∈ L) {t : Nat} (ht : tag a = t) {n : Nat} {iv : Nat → Int × Int} (hi : tt t = .inr (1, n, iv)) {i : Int32} (hin : 0 ≤ i.toInt ∧ i.toInt < n) (hdg : decode cc pc = .ok (.baload, 1))
    (kk : ∀ z : Int32, elm F a i.toNatClampNeg = z → (iv i.toNatClampNeg).1 ≤ z.toInt ∧ z.toInt ≤ (iv i.toNatClampNeg).2 → W p l e R s m args below meth c H locs cells slots Q (F0 m (pc + 1) ls (.int z :: rest))) : W p l e R s m args below meth c H locs cells slots Q (F0 m pc ls (.int i :: .ref a :: rest)) := by
  obtain ⟨q0, hq⟩ := th_at hT ha
  obtain ⟨f, hf, hok⟩ := (th_arr hT ha ht hi : okA G tag L (1, n, iv) (F a))
  have hv : vp_in i n := vp_in_iff.mpr hin
  have hj : i.toNatClampNeg < n := by have h := hv; unfold vp_in at h; omega
  rw [hf] at hq
  exact va_zald (D := G.1) X.1.1 X.1.2.1 X.2.2.1 hT.1 q0 1 hq rfl hv hdg (kk (f i.toNatClampNeg) (by simp [elm, hf]) (hok _ hj))
theorem t_bld (X : CX p s m args meth c cc nL own rt G A Ts) (hT : TH G tt A s tag L F H locs) (ha : a ∈ L) {t : Nat} (ht : tag a = t) {n : Nat} {iv : Nat → Int × Int} (hi : tt t = .inr (3, n, iv)) {i : Int32} (hin : 0 ≤ i.toInt ∧ i.toInt < n) (hdg : decode cc pc = .ok (.baload, 1))
    (kk : ∀ z : Int32, elm F a i.toNatClampNeg = z → (iv i.toNatClampNeg).1 ≤ z.toInt ∧ z.toInt ≤ (iv i.toNatClampNeg).2 → W p l e R s m args below meth c H locs cells slots Q (F0 m (pc + 1) ls (.int z :: rest))) : W p l e R s m args below meth c H locs cells slots Q (F0 m pc ls (.int i :: .ref a :: rest)) := by
  obtain ⟨q0, hq⟩ := th_at hT ha
  obtain ⟨f, hf, hok⟩ := (th_arr hT ha ht hi : okA G tag L (3, n, iv) (F a))
  have hv : vp_in i n := vp_in_iff.mpr hin
  have hj : i.toNatClampNeg < n := by have h := hv; unfold vp_in at h; omega
  rw [hf] at hq
  exact va_bald (D := G.1) X.1.1 X.1.2.1 X.2.2.1 hT.1 q0 3 hq rfl hv hdg (kk (f i.toNatClampNeg) (by simp [elm, hf]) (hok _ hj))
theorem t_ist (X : CX p s m args meth c cc nL own rt G A Ts) (hT : TH G tt A s tag L F H locs) (ha : a ∈ L) {t : Nat} (ht : tag a = t) {n : Nat} {iv : Nat → Int × Int} (hi : tt t = .inr (0, n, iv)) {i x : Int32} (hin : 0 ≤ i.toInt ∧ i.toInt < n) (hx : (iv i.toNatClampNeg).1 ≤ (x).toInt ∧ (x).toInt ≤ (iv i.toNatClampNeg).2) (hdg : decode cc pc = .ok (.iastore, 1))
    (kk : ∀ (F1 : Nat → va_E) (H1 : Heap) (locs1 : List Loc), TH G tt A s tag L F1 H1 locs1 → elm F1 a i.toNatClampNeg = x → (∀ b j : Nat, (b ≠ a ∨ j ≠ i.toNatClampNeg) → elm F1 b j = elm F b j) → (∀ b j : Nat, fld F1 b j = fld F b j) → W p l e R s m args below meth c H1 locs1 cells slots Q (F0 m (pc + 1) ls rest)) : W p l e R s m args below meth c H locs cells slots Q (F0 m pc ls (.int x :: .int i :: .ref a :: rest)) := by
  obtain ⟨q0, hq⟩ := th_at hT ha
  obtain ⟨f, hf, hok⟩ := (th_arr hT ha ht hi : okA G tag L (0, n, iv) (F a))
  have hv : vp_in i n := vp_in_iff.mpr hin
  have hq2 := hq
  rw [hf] at hq2
  refine va_iast (D := G.1) X.1.1 X.1.2.1 X.2.2.1 hT.1 hT.2.1 hT.2.2.1 q0 0 hq2 rfl hv hdg (fun H1 locs1 hP hD hS => ?_)
  have ho : okE G tt tag L (tag a) (.inl (G.2 0, n, .inl (upd f i.toNatClampNeg (x)))) := by
    unfold okE
    rw [ht, hi]
    refine ⟨_, rfl, fun j hj => ?_⟩
    by_cases h : j = i.toNatClampNeg
    · rw [h, pk_us]
      exact hx
    · rw [pk_un h]
      exact hok j hj
  refine kk (va_up F a (.inl (G.2 0, n, .inl (upd f i.toNatClampNeg (x))))) H1 locs1 (th_up (D := G.1) hT ha hq hP hD hS ho) ?_ ?_ ?_
  · simp [elm, va_up, pk_us]
  · intro b j h
    by_cases hb : b = a
    · subst hb
      have hj : j ≠ i.toNatClampNeg := h.resolve_left (fun q => q rfl)
      simp [elm, va_up, hf, pk_un hj]
    · simp [elm, va_up, hb]
  · intro b j
    by_cases hb : b = a
    · subst hb
      simp [fld, va_up, hf]
    · simp [fld, va_up, hb]
theorem t_zst (X : CX p s m args meth c cc nL own rt G A Ts) (hT : TH G tt A s tag L F H locs) (ha : a ∈ L) {t : Nat} (ht : tag a = t) {n : Nat} {iv : Nat → Int × Int} (hi : tt t = .inr (1, n, iv)) {i x : Int32} (hin : 0 ≤ i.toInt ∧ i.toInt < n) (hx : (iv i.toNatClampNeg).1 ≤ (vp_nar .boolean x).toInt ∧ (vp_nar .boolean x).toInt ≤ (iv i.toNatClampNeg).2) (hdg : decode cc pc = .ok (.bastore, 1))
    (kk : ∀ (F1 : Nat → va_E) (H1 : Heap) (locs1 : List Loc), TH G tt A s tag L F1 H1 locs1 → elm F1 a i.toNatClampNeg = vp_nar .boolean x → (∀ b j : Nat, (b ≠ a ∨ j ≠ i.toNatClampNeg) → elm F1 b j = elm F b j) → (∀ b j : Nat, fld F1 b j = fld F b j) → W p l e R s m args below meth c H1 locs1 cells slots Q (F0 m (pc + 1) ls rest)) : W p l e R s m args below meth c H locs cells slots Q (F0 m pc ls (.int x :: .int i :: .ref a :: rest)) := by
  obtain ⟨q0, hq⟩ := th_at hT ha
  obtain ⟨f, hf, hok⟩ := (th_arr hT ha ht hi : okA G tag L (1, n, iv) (F a))
  have hv : vp_in i n := vp_in_iff.mpr hin
  have hq2 := hq
  rw [hf] at hq2
  refine va_zast (D := G.1) X.1.1 X.1.2.1 X.2.2.1 hT.1 hT.2.1 hT.2.2.1 q0 1 hq2 rfl hv hdg (fun H1 locs1 hP hD hS => ?_)
  have ho : okE G tt tag L (tag a) (.inl (G.2 1, n, .inl (upd f i.toNatClampNeg (vp_nar .boolean x)))) := by
    unfold okE
    rw [ht, hi]
    refine ⟨_, rfl, fun j hj => ?_⟩
    by_cases h : j = i.toNatClampNeg
    · rw [h, pk_us]
      exact hx
    · rw [pk_un h]
      exact hok j hj
  refine kk (va_up F a (.inl (G.2 1, n, .inl (upd f i.toNatClampNeg (vp_nar .boolean x))))) H1 locs1 (th_up (D := G.1) hT ha hq hP hD hS ho) ?_ ?_ ?_
  · simp [elm, va_up, pk_us]
  · intro b j h
    by_cases hb : b = a
    · subst hb
      have hj : j ≠ i.toNatClampNeg := h.resolve_left (fun q => q rfl)
      simp [elm, va_up, hf, pk_un hj]
    · simp [elm, va_up, hb]
  · intro b j
    by_cases hb : b = a
    · subst hb
      simp [fld, va_up, hf]
    · simp [fld, va_up, hb]
theorem t_bst (X : CX p s m args meth c cc nL own rt G A Ts) (hT : TH G tt A s tag L F H locs) (ha : a ∈ L) {t : Nat} (ht : tag a = t) {n : Nat} {iv : Nat → Int × Int} (hi : tt t = .inr (3, n, iv)) {i x : Int32} (hin : 0 ≤ i.toInt ∧ i.toInt < n) (hx : (iv i.toNatClampNeg).1 ≤ (vp_nar .byte x).toInt ∧ (vp_nar .byte x).toInt ≤ (iv i.toNatClampNeg).2) (hdg : decode cc pc = .ok (.bastore, 1))
    (kk : ∀ (F1 : Nat → va_E) (H1 : Heap) (locs1 : List Loc), TH G tt A s tag L F1 H1 locs1 → elm F1 a i.toNatClampNeg = vp_nar .byte x → (∀ b j : Nat, (b ≠ a ∨ j ≠ i.toNatClampNeg) → elm F1 b j = elm F b j) → (∀ b j : Nat, fld F1 b j = fld F b j) → W p l e R s m args below meth c H1 locs1 cells slots Q (F0 m (pc + 1) ls rest)) : W p l e R s m args below meth c H locs cells slots Q (F0 m pc ls (.int x :: .int i :: .ref a :: rest)) := by
  obtain ⟨q0, hq⟩ := th_at hT ha
  obtain ⟨f, hf, hok⟩ := (th_arr hT ha ht hi : okA G tag L (3, n, iv) (F a))
  have hv : vp_in i n := vp_in_iff.mpr hin
  have hq2 := hq
  rw [hf] at hq2
  refine va_bast (D := G.1) X.1.1 X.1.2.1 X.2.2.1 hT.1 hT.2.1 hT.2.2.1 q0 3 hq2 rfl hv hdg (fun H1 locs1 hP hD hS => ?_)
  have ho : okE G tt tag L (tag a) (.inl (G.2 3, n, .inl (upd f i.toNatClampNeg (vp_nar .byte x)))) := by
    unfold okE
    rw [ht, hi]
    refine ⟨_, rfl, fun j hj => ?_⟩
    by_cases h : j = i.toNatClampNeg
    · rw [h, pk_us]
      exact hx
    · rw [pk_un h]
      exact hok j hj
  refine kk (va_up F a (.inl (G.2 3, n, .inl (upd f i.toNatClampNeg (vp_nar .byte x))))) H1 locs1 (th_up (D := G.1) hT ha hq hP hD hS ho) ?_ ?_ ?_
  · simp [elm, va_up, pk_us]
  · intro b j h
    by_cases hb : b = a
    · subst hb
      have hj : j ≠ i.toNatClampNeg := h.resolve_left (fun q => q rfl)
      simp [elm, va_up, hf, pk_un hj]
    · simp [elm, va_up, hb]
  · intro b j
    by_cases hb : b = a
    · subst hb
      simp [fld, va_up, hf]
    · simp [fld, va_up, hb]
theorem t_alen (X : CX p s m args meth c cc nL own rt G A Ts) (hT : TH G tt A s tag L F H locs) (ha : a ∈ L) {t : Nat} (ht : tag a = t) {x : AT} (hi : tt t = .inr x) (hk : x.1 < 5) (hdg : decode cc pc = .ok (.arraylength, 1))
    (kk : W p l e R s m args below meth c H locs cells slots Q (F0 m (pc + 1) ls (.int (Int32.ofNat x.2.1) :: rest))) : W p l e R s m args below meth c H locs cells slots Q (F0 m pc ls (.ref a :: rest)) := by
  obtain ⟨q0, hq⟩ := th_at hT ha
  have ho := th_arr hT ha ht hi
  obtain ⟨k, n, iv⟩ := x
  have hk : k < 5 := hk
  match k, hk, ho with
  | 0, _, ho => obtain ⟨f, hf, -⟩ := ho; rw [hf] at hq; exact m_alen (ty := .int) X hT.1 q0 0 hq rfl rfl hdg kk
  | 1, _, ho => obtain ⟨f, hf, -⟩ := ho; rw [hf] at hq; exact m_alen (ty := .boolean) X hT.1 q0 1 hq rfl rfl hdg kk
  | 2, _, ho => obtain ⟨f, hf⟩ := ho; rw [hf] at hq; exact m_alen (ty := .long) X hT.1 q0 2 hq rfl rfl hdg kk
  | 3, _, ho => obtain ⟨f, hf, -⟩ := ho; rw [hf] at hq; exact m_alen (ty := .byte) X hT.1 q0 3 hq rfl rfl hdg kk
  | 4, _, ho => obtain ⟨f, hf, -⟩ := ho; rw [hf] at hq; exact m_alen (ty := .object "YearSkins$State") X hT.1 q0 4 hq rfl rfl hdg kk
theorem t_ald (X : CX p s m args meth c cc nL own rt G A Ts) (hT : TH G tt A s tag L F H locs) (ha : a ∈ L) {t : Nat} (ht : tag a = t) {n : Nat} {iv : Nat → Int × Int} (hi : tt t = .inr (4, n, iv)) {i : Int32} (hin : 0 ≤ i.toInt ∧ i.toInt < n) (hdg : decode cc pc = .ok (.aaload, 1))
    (kk : ∀ b : Nat, b ∈ L → (tag b : Int) = (iv i.toNatClampNeg).1 → W p l e R s m args below meth c H locs cells slots Q (F0 m (pc + 1) ls (.ref b :: rest))) : W p l e R s m args below meth c H locs cells slots Q (F0 m pc ls (.int i :: .ref a :: rest)) := by
  obtain ⟨q0, hq⟩ := th_at hT ha
  obtain ⟨f, hf, hok⟩ := (th_arr hT ha ht hi : okA G tag L (4, n, iv) (F a))
  have hv : vp_in i n := vp_in_iff.mpr hin
  have hj : i.toNatClampNeg < n := by have h := hv; unfold vp_in at h; omega
  obtain ⟨b, hb, h1, h2⟩ := hok _ hj
  rw [hf] at hq
  refine va_aldq (D := G.1) X.1.1 X.1.2.1 X.2.2.1 hT.1 q0 4 hq rfl hv hdg ?_
  rw [hb]
  exact kk b h1 h2
end TA
section TC
variable {p : Program} {l : Launch} {e : Env} {R : Room} {s : State} {m : MethodId} {args : Array Value} {below : List Frame} {meth : Method} {c : Code} {H : Heap} {locs : List Loc} {cells slots : Nat} {Q : State → Prop}
variable {pc : Nat} {ls : Array Slot} {rest st : List Value} {cc : ByteArray} {nL : Nat} {own : String} {rt : Option FieldType} {G : KG} {A : Nat → Prop} {Ts : List Cond} {a : Nat} {tt : TT} {tag : Nat → Nat} {L : List Nat} {F : Nat → va_E}
variable {y : MethodName} {cd : ByteArray} {mL : Nat} {rt2 : Option FieldType} {rm : Room} {As : List Value} {b : Nat} {index n : Nat} {lv : List (Nat × Value)}
/-- a typed method that answers an int: over any typed heap it returns, what it answers and leaves is as 'post' says, typed again -/
def TMi (l : Launch) (y : MethodName) (cd : ByteArray) (mL : Nat) (rt : Option FieldType) (rm : Room) (G : KG) (tt : TT) (tag : Nat → Nat) (L : List Nat) (F : Nat → va_E) (av : List Value) (post : Int32 → (Nat → va_E) → Prop) : Prop :=
  ∀ sz : Nat, Met l y (.code y cd mL rt :: wsL_law) rm (va_Pc av (Pw G (va_pl L F) sz)) (va_Qi (fun r F1 => okT G tt tag L F1 ∧ post r F1) (fun F1 t => Bw G (va_A (va_pl L F) sz) (va_pl L F1) t) (va_A (va_pl L F) sz)) rm.cells rm.slots (va_A (va_pl L F) sz)
def TMv (l : Launch) (y : MethodName) (cd : ByteArray) (mL : Nat) (rm : Room) (G : KG) (tt : TT) (tag : Nat → Nat) (L : List Nat) (F : Nat → va_E) (av : List Value) (post : (Nat → va_E) → Prop) : Prop :=
  ∀ sz : Nat, Met l y (.code y cd mL none :: wsL_law) rm (va_Pc av (Pw G (va_pl L F) sz)) (va_Qv (fun F1 => okT G tt tag L F1 ∧ post F1) (fun F1 t => Bw G (va_A (va_pl L F) sz) (va_pl L F1) t) (va_A (va_pl L F) sz)) rm.cells rm.slots (va_A (va_pl L F) sz)
theorem th_all (hT : TH G tt A s tag L F H locs) (hA : ∀ q : Nat, s.heap.size ≤ q → A q) : ∀ q, va_A (va_pl L F) H.size q → A q := by
  intro q hq
  rcases hq with ⟨k, e, hk⟩ | hq
  · exact hT.2.1.2 k (q, e) hk
  · exact hA q (Nat.le_trans hT.2.2.1.1 hq)
theorem th_back {F1 : Nat → va_E} {H1 : Heap} {locs1 : List Loc} (hT : TH G tt A s tag L F H locs) (hA : ∀ q : Nat, s.heap.size ≤ q → A q) (hP : va_P G.1 vwCl (va_pl L F1) H1) (hD : va_D (va_A (va_pl L F) H.size) (va_pl L F1)) (hS : va_S A s.heap H1 locs1) (ho : okT G tt tag L F1) : TH G tt A s tag L F1 H1 locs1 :=
  ⟨hP, hD.weaken (fun _ _ _ h => th_all hT hA _ h), hS, ho⟩
theorem t_cVi (X : CX p s m args meth c cc nL own rt G A Ts) (hT : TH G tt A s tag L F H locs) {post : Int32 → (Nat → va_E) → Prop} (K : TMi l y cd mL rt2 rm G tt tag L F (.ref b :: As) post)
    (hb : b ∈ L) {t : Nat} (ht : tag b = t) {ci : Nat} {ts : List FT} (hi : tt t = .inl (ci, ts)) {C : String} {T : u_T} {N : Nat} (hc : vwCl[ci]? = some (C, T, N))
    (v1 : Cond.methodLink own index y ∈ wsL_law) (v2 : Cond.instanceMethod y ∈ wsL_law) (v3 : Cond.selects C y y ∈ wsL_law) (v4 : Cond.initialized C ∈ wsL_law) (v5 : Cond.code y cd mL rt2 ∈ wsL_law)
    (hd : y.cls = C ∧ y.cls ≠ "java/lang/invoke/MethodHandle" ∧ y.cls ≠ "java/lang/invoke/VarHandle" ∧ (parseMethodDescriptor y.desc).map (fun d => d.parameters.length) = some n) (hRm : rm.frames + 1 ≤ R.frames ∧ 8 + (mL + 11) + rm.locals ≤ R.locals) (hls : lv_has ls nL lv) (hst : st = As.reverse ++ .ref b :: rest) (hAs : As.length = n) (hW : (rest.map fun v => v.category).sum ≤ 8) (hdg : decode cc pc = .ok (.invokevirtual index, 3)) (hf : cells + rm.cells ≤ R.cells ∧ slots + rm.slots ≤ R.slots)
    (kk : ∀ (r : Int32) (F1 : Nat → va_E) (H1 : Heap) (locs1 : List Loc), TH G tt A s tag L F1 H1 locs1 → post r F1 → W p l e R s m args below meth c H1 locs1 (cells + rm.cells) (slots + rm.slots) Q (F0 m (pc + 3) ls (.int r :: rest))) : W p l e R s m args below meth c H locs cells slots Q (F0 m pc ls st) := by
  subst hst
  obtain ⟨q0, hq⟩ := th_at hT hb
  obtain ⟨fs, hfs, -⟩ := th_obj hT hb ht hi
  rw [hfs] at hq
  have hFc := th_all hT X.2.2.2.2.1
  have hG : GoodIn Ts (wsV own index C y (.code y cd mL rt2 :: wsL_law)) := gT X.2.1 (fun w hw => by
    simp only [wsV, List.cons_append, List.nil_append, List.mem_cons] at hw
    rcases hw with rfl | rfl | rfl | rfl | rfl | hw
    · exact v1
    · exact v2
    · exact v3
    · exact v4
    · exact v5
    · exact hw)
  refine va_calli (va_runV (As := As) (rest := rest) X.1 (K H.size) (cwV n X.1.2.2.2.2 hG rfl rfl rfl hd hRm) ⟨Pw_blind, va_recv X.2.2.1 hT.1 hc hq, fun U hU hW => m_pre (U0 := s) (av := .ref b :: As) X.2.2.1 X.2.2.2.1 hT.1 hT.2.1 hT.2.2.1 hFc U hU hW⟩ rfl hAs hls.1 rfl (lv_room hW) hdg hf) hT.2.2.1 (fun q _ h => hFc q h) hFc (fun r F1 t H1 locs1 ht hvm hw hB hz1 hk1 hS1 => ?_)
  obtain ⟨hP1, hD1⟩ := hB
  rw [ht] at hP1
  exact kk r F1 H1 locs1 (th_back hT X.2.2.2.2.1 hP1 hD1 hS1 hw.1) hw.2
theorem t_cVv (X : CX p s m args meth c cc nL own rt G A Ts) (hT : TH G tt A s tag L F H locs) {post : (Nat → va_E) → Prop} (K : TMv l y cd mL rm G tt tag L F (.ref b :: As) post)
    (hb : b ∈ L) {t : Nat} (ht : tag b = t) {ci : Nat} {ts : List FT} (hi : tt t = .inl (ci, ts)) {C : String} {T : u_T} {N : Nat} (hc : vwCl[ci]? = some (C, T, N))
    (v1 : Cond.methodLink own index y ∈ wsL_law) (v2 : Cond.instanceMethod y ∈ wsL_law) (v3 : Cond.selects C y y ∈ wsL_law) (v4 : Cond.initialized C ∈ wsL_law) (v5 : Cond.code y cd mL none ∈ wsL_law)
    (hd : y.cls = C ∧ y.cls ≠ "java/lang/invoke/MethodHandle" ∧ y.cls ≠ "java/lang/invoke/VarHandle" ∧ (parseMethodDescriptor y.desc).map (fun d => d.parameters.length) = some n) (hRm : rm.frames + 1 ≤ R.frames ∧ 8 + (mL + 11) + rm.locals ≤ R.locals) (hls : lv_has ls nL lv) (hst : st = As.reverse ++ .ref b :: rest) (hAs : As.length = n) (hW : (rest.map fun v => v.category).sum ≤ 8) (hdg : decode cc pc = .ok (.invokevirtual index, 3)) (hf : cells + rm.cells ≤ R.cells ∧ slots + rm.slots ≤ R.slots)
    (kk : ∀ (F1 : Nat → va_E) (H1 : Heap) (locs1 : List Loc), TH G tt A s tag L F1 H1 locs1 → post F1 → W p l e R s m args below meth c H1 locs1 (cells + rm.cells) (slots + rm.slots) Q (F0 m (pc + 3) ls rest)) : W p l e R s m args below meth c H locs cells slots Q (F0 m pc ls st) := by
  subst hst
  obtain ⟨q0, hq⟩ := th_at hT hb
  obtain ⟨fs, hfs, -⟩ := th_obj hT hb ht hi
  rw [hfs] at hq
  have hFc := th_all hT X.2.2.2.2.1
  have hG : GoodIn Ts (wsV own index C y (.code y cd mL none :: wsL_law)) := gT X.2.1 (fun w hw => by
    simp only [wsV, List.cons_append, List.nil_append, List.mem_cons] at hw
    rcases hw with rfl | rfl | rfl | rfl | rfl | hw
    · exact v1
    · exact v2
    · exact v3
    · exact v4
    · exact v5
    · exact hw)
  refine va_callv (va_runV (As := As) (rest := rest) X.1 (K H.size) (cwV n X.1.2.2.2.2 hG rfl rfl rfl hd hRm) ⟨Pw_blind, va_recv X.2.2.1 hT.1 hc hq, fun U hU hW => m_pre (U0 := s) (av := .ref b :: As) X.2.2.1 X.2.2.2.1 hT.1 hT.2.1 hT.2.2.1 hFc U hU hW⟩ rfl hAs hls.1 rfl (lv_room hW) hdg hf) hT.2.2.1 (fun q _ h => hFc q h) hFc (fun F1 t H1 locs1 ht hvm hw hB hz1 hk1 hS1 => ?_)
  obtain ⟨hP1, hD1⟩ := hB
  rw [ht] at hP1
  exact kk F1 H1 locs1 (th_back hT X.2.2.2.2.1 hP1 hD1 hS1 hw.1) hw.2
theorem t_cSi (X : CX p s m args meth c cc nL own rt G A Ts) (hT : TH G tt A s tag L F H locs) {post : Int32 → (Nat → va_E) → Prop} (K : TMi l y cd mL rt2 rm G tt tag L F As post)
    (v1 : Cond.methodLink own index y ∈ wsL_law) (v2 : Cond.static y ∈ wsL_law) (v4 : Cond.initialized y.cls ∈ wsL_law) (v5 : Cond.code y cd mL rt2 ∈ wsL_law)
    (hd : y.cls ≠ "java/lang/invoke/MethodHandle" ∧ y.cls ≠ "java/lang/invoke/VarHandle" ∧ (parseMethodDescriptor y.desc).map (fun d => d.parameters.length) = some n) (hRm : rm.frames + 1 ≤ R.frames ∧ 8 + (mL + 11) + rm.locals ≤ R.locals) (hls : lv_has ls nL lv) (hst : st = As.reverse ++ rest) (hAs : As.length = n) (hW : (rest.map fun v => v.category).sum ≤ 8) (hdg : decode cc pc = .ok (.invokestatic index, 3)) (hf : cells + rm.cells ≤ R.cells ∧ slots + rm.slots ≤ R.slots)
    (kk : ∀ (r : Int32) (F1 : Nat → va_E) (H1 : Heap) (locs1 : List Loc), TH G tt A s tag L F1 H1 locs1 → post r F1 → W p l e R s m args below meth c H1 locs1 (cells + rm.cells) (slots + rm.slots) Q (F0 m (pc + 3) ls (.int r :: rest))) : W p l e R s m args below meth c H locs cells slots Q (F0 m pc ls st) := by
  subst hst
  have hFc := th_all hT X.2.2.2.2.1
  have hG : GoodIn Ts (va_wsS own index y (.code y cd mL rt2 :: wsL_law)) := gT X.2.1 (fun w hw => by
    simp only [va_wsS, List.cons_append, List.nil_append, List.mem_cons] at hw
    rcases hw with rfl | rfl | rfl | rfl | hw
    · exact v1
    · exact v2
    · exact v4
    · exact v5
    · exact hw)
  refine va_calli (va_runS (As := As) (rest := rest) X.1 (K H.size) (va_cwS n X.1.2.2.2.2 hG rfl rfl rfl hd hRm) ⟨Pw_blind, fun U hU hW => m_pre (U0 := s) (av := As) X.2.2.1 X.2.2.2.1 hT.1 hT.2.1 hT.2.2.1 hFc U hU hW⟩ rfl hAs hls.1 rfl (lv_room hW) hdg hf) hT.2.2.1 (fun q _ h => hFc q h) hFc (fun r F1 t H1 locs1 ht hvm hw hB hz1 hk1 hS1 => ?_)
  obtain ⟨hP1, hD1⟩ := hB
  rw [ht] at hP1
  exact kk r F1 H1 locs1 (th_back hT X.2.2.2.2.1 hP1 hD1 hS1 hw.1) hw.2
theorem t_cSv (X : CX p s m args meth c cc nL own rt G A Ts) (hT : TH G tt A s tag L F H locs) {post : (Nat → va_E) → Prop} (K : TMv l y cd mL rm G tt tag L F As post)
    (v1 : Cond.methodLink own index y ∈ wsL_law) (v2 : Cond.static y ∈ wsL_law) (v4 : Cond.initialized y.cls ∈ wsL_law) (v5 : Cond.code y cd mL none ∈ wsL_law)
    (hd : y.cls ≠ "java/lang/invoke/MethodHandle" ∧ y.cls ≠ "java/lang/invoke/VarHandle" ∧ (parseMethodDescriptor y.desc).map (fun d => d.parameters.length) = some n) (hRm : rm.frames + 1 ≤ R.frames ∧ 8 + (mL + 11) + rm.locals ≤ R.locals) (hls : lv_has ls nL lv) (hst : st = As.reverse ++ rest) (hAs : As.length = n) (hW : (rest.map fun v => v.category).sum ≤ 8) (hdg : decode cc pc = .ok (.invokestatic index, 3)) (hf : cells + rm.cells ≤ R.cells ∧ slots + rm.slots ≤ R.slots)
    (kk : ∀ (F1 : Nat → va_E) (H1 : Heap) (locs1 : List Loc), TH G tt A s tag L F1 H1 locs1 → post F1 → W p l e R s m args below meth c H1 locs1 (cells + rm.cells) (slots + rm.slots) Q (F0 m (pc + 3) ls rest)) : W p l e R s m args below meth c H locs cells slots Q (F0 m pc ls st) := by
  subst hst
  have hFc := th_all hT X.2.2.2.2.1
  have hG : GoodIn Ts (va_wsS own index y (.code y cd mL none :: wsL_law)) := gT X.2.1 (fun w hw => by
    simp only [va_wsS, List.cons_append, List.nil_append, List.mem_cons] at hw
    rcases hw with rfl | rfl | rfl | rfl | hw
    · exact v1
    · exact v2
    · exact v4
    · exact v5
    · exact hw)
  refine va_callv (va_runS (As := As) (rest := rest) X.1 (K H.size) (va_cwS n X.1.2.2.2.2 hG rfl rfl rfl hd hRm) ⟨Pw_blind, fun U hU hW => m_pre (U0 := s) (av := As) X.2.2.1 X.2.2.2.1 hT.1 hT.2.1 hT.2.2.1 hFc U hU hW⟩ rfl hAs hls.1 rfl (lv_room hW) hdg hf) hT.2.2.1 (fun q _ h => hFc q h) hFc (fun F1 t H1 locs1 ht hvm hw hB hz1 hk1 hS1 => ?_)
  obtain ⟨hP1, hD1⟩ := hB
  rw [ht] at hP1
  exact kk F1 H1 locs1 (th_back hT X.2.2.2.2.1 hP1 hD1 hS1 hw.1) hw.2
theorem t_bodyi {av : List Value} {post : Int32 → (Nat → va_E) → Prop} (hy : plainName y.cls = true) (hlen : (lg_sl av).length ≤ mL) (ho : okT G tt tag L F)
    (body : ∀ (p : Program) (e : Env) (s : State) (m : MethodId) (args : Array Value) (below : List Frame) (meth : Method) (c : Code) (ls : Array Slot) (A : Nat → Prop) (Q : State → Prop), Q = MQ below (va_Qi (fun r F1 => okT G tt tag L F1 ∧ post r F1) (fun F1 t => Bw G A (va_pl L F1) t) A) args s rm.cells rm.slots A → CX p s m args meth c cd mL y.cls rt G A (.code y cd mL rt :: wsL_law) → TH G tt A s tag L F s.heap [] → lv_has ls mL (lv_args 0 av) → W p l e rm s m args below meth c s.heap [] 0 0 Q (F0 m 0 ls [])) :
    TMi l y cd mL rt rm G tt tag L F av post := by
  intro sz
  refine m_body (Qf := fun A => va_Qi (fun r F1 => okT G tt tag L F1 ∧ post r F1) (fun F1 t => Bw G A (va_pl L F1) t) A) hy hlen ?_
  intro p e s m args below meth c ls A X hi hP hD hS hl
  exact body p e s m args below meth c ls A _ rfl X ⟨hP, hD, hS, ho⟩ hl
theorem t_bodyv {av : List Value} {post : (Nat → va_E) → Prop} (hy : plainName y.cls = true) (hlen : (lg_sl av).length ≤ mL) (ho : okT G tt tag L F)
    (body : ∀ (p : Program) (e : Env) (s : State) (m : MethodId) (args : Array Value) (below : List Frame) (meth : Method) (c : Code) (ls : Array Slot) (A : Nat → Prop) (Q : State → Prop), Q = MQ below (va_Qv (fun F1 => okT G tt tag L F1 ∧ post F1) (fun F1 t => Bw G A (va_pl L F1) t) A) args s rm.cells rm.slots A → CX p s m args meth c cd mL y.cls none G A (.code y cd mL none :: wsL_law) → TH G tt A s tag L F s.heap [] → lv_has ls mL (lv_args 0 av) → W p l e rm s m args below meth c s.heap [] 0 0 Q (F0 m 0 ls [])) :
    TMv l y cd mL rm G tt tag L F av post := by
  intro sz
  refine m_body (Qf := fun A => va_Qv (fun F1 => okT G tt tag L F1 ∧ post F1) (fun F1 t => Bw G A (va_pl L F1) t) A) hy hlen ?_
  intro p e s m args below meth c ls A X hi hP hD hS hl
  exact body p e s m args below meth c ls A _ rfl X ⟨hP, hD, hS, ho⟩ hl
theorem t_iret {post : Int32 → (Nat → va_E) → Prop} {v : Int32} {k n : Nat} (hQ : Q = MQ below (va_Qi (fun r F1 => okT G tt tag L F1 ∧ post r F1) (fun F1 t => Bw G A (va_pl L F1) t) A) args s k n A) (X : CX p s m args meth c cc nL own (some .int) G A Ts) (hT : TH G tt A s tag L F H locs) (hp : post v F) (h1 : cells ≤ k) (h2 : slots ≤ n) (hdg : decode cc pc = .ok (.ireturn, 1)) :
    W p l e R s m args below meth c H locs cells slots Q (F0 m pc ls [.int v]) := by
  rw [hQ]
  refine W.widen h1 h2 ?_
  exact W.iret X.1.1 X.1.2.1 X.2.2.2.2.2.1 (fun t ht _ => ⟨⟨v, F, rfl, ⟨hT.2.2.2, hp⟩, by rw [ht]; exact hT.1, hT.2.1⟩, hT.2.2.1.F ht⟩) hT.2.2.1.2.2 hdg X.2.2.2.2.2.2
theorem t_zret {post : Int32 → (Nat → va_E) → Prop} {v : Int32} {k n : Nat} (hQ : Q = MQ below (va_Qi (fun r F1 => okT G tt tag L F1 ∧ post r F1) (fun F1 t => Bw G A (va_pl L F1) t) A) args s k n A) (X : CX p s m args meth c cc nL own (some .boolean) G A Ts) (hT : TH G tt A s tag L F H locs) (hz : narrow .boolean (.int v) = .int v) (hp : post v F) (h1 : cells ≤ k) (h2 : slots ≤ n) (hdg : decode cc pc = .ok (.ireturn, 1)) :
    W p l e R s m args below meth c H locs cells slots Q (F0 m pc ls [.int v]) := by
  rw [hQ]
  refine W.widen h1 h2 ?_
  exact W.zret X.1.1 X.1.2.1 X.2.2.2.2.2.1 hz (fun t ht _ => ⟨⟨v, F, rfl, ⟨hT.2.2.2, hp⟩, by rw [ht]; exact hT.1, hT.2.1⟩, hT.2.2.1.F ht⟩) hT.2.2.1.2.2 hdg X.2.2.2.2.2.2
theorem t_vret {post : (Nat → va_E) → Prop} {k n : Nat} (hQ : Q = MQ below (va_Qv (fun F1 => okT G tt tag L F1 ∧ post F1) (fun F1 t => Bw G A (va_pl L F1) t) A) args s k n A) (X : CX p s m args meth c cc nL own none G A Ts) (hT : TH G tt A s tag L F H locs) (hp : post F) (h1 : cells ≤ k) (h2 : slots ≤ n) (hdg : decode cc pc = .ok (.return_, 1)) :
    W p l e R s m args below meth c H locs cells slots Q (F0 m pc ls []) := by
  rw [hQ]
  refine W.widen h1 h2 ?_
  exact W.vret X.1.1 X.1.2.1 X.2.2.2.2.2.1 (fun t ht _ => ⟨⟨F, rfl, ⟨hT.2.2.2, hp⟩, by rw [ht]; exact hT.1, hT.2.1⟩, hT.2.2.1.F ht⟩) hT.2.2.1.2.2 hdg X.2.2.2.2.2.2
end TC
section TS9
variable {p : Program} {l : Launch} {e : Env} {R : Room} {s : State} {m : MethodId} {args : Array Value} {below : List Frame} {meth : Method} {c : Code} {H : Heap} {locs : List Loc} {cells slots : Nat} {Q : State → Prop}
variable {pc : Nat} {ls : Array Slot} {rest : List Value} {cc : ByteArray} {nL index : Nat} {own : String} {rt : Option FieldType} {G : KG} {A : Nat → Prop} {Ts : List Cond} {tt : TT} {tag : Nat → Nat} {L : List Nat} {F : Nat → va_E} {t N : Nat} {n : String} {g : Nat → Int32}
theorem t_gets (X : CX p s m args meth c cc nL own rt G A Ts) (hT : TH G tt A s tag L F H locs) (h : STa t N n g A s s.heap) (hw : Cond.fieldLink own index "YearSkins" n "[I" ∈ wsL_law) (hdg : decode cc pc = .ok (.getstatic index, 3))
    (kk : W p l e R s m args below meth c H locs cells slots Q (F0 m (pc + 3) ls (.ref t :: rest))) : W p l e R s m args below meth c H locs cells slots Q (F0 m pc ls rest) :=
  va_gets X.1.1 X.1.2.1 h.1 hT.2.2.1 X.1.2.2.2.1 (X.1.2.2.2.2 _ (X.2.1 _ hw)) (fun _ h => h) hdg kk
theorem t_getsN (X : CX p s m args meth c cc nL own rt G A Ts) (hT : TH G tt A s tag L F H locs) (h : STa t N n g A s s.heap) (hw : (own, index, "YearSkins", n, "[I", "YearSkins") ∈ nestF) (hdg : decode cc pc = .ok (.getstatic index, 3))
    (kk : W p l e R s m args below meth c H locs cells slots Q (F0 m (pc + 3) ls (.ref t :: rest))) : W p l e R s m args below meth c H locs cells slots Q (F0 m pc ls rest) :=
  va_getsN (host := "YearSkins") X.1.1 X.1.2.1 h.1 hT.2.2.1 X.1.2.2.2.1 (va_Nw.use rfl (X.2.2.2.1.1.2.1 _ hw)) (fun _ h => h) hdg kk
theorem t_tild (X : CX p s m args meth c cc nL own rt G A Ts) (hT : TH G tt A s tag L F H locs) (h : STa t N n g A s s.heap) {i : Int32} (hin : 0 ≤ i.toInt ∧ i.toInt < N) (hdg : decode cc pc = .ok (.iaload, 1))
    (kk : ∀ z : Int32, z = g i.toNatClampNeg → W p l e R s m args below meth c H locs cells slots Q (F0 m (pc + 1) ls (.int z :: rest))) : W p l e R s m args below meth c H locs cells slots Q (F0 m pc ls (.int i :: .ref t :: rest)) :=
  va_ti X.1.1 X.1.2.1 h.2 hT.2.2.1 (vp_in_iff.mpr hin) rfl hdg (kk _ rfl)
theorem t_tlen (X : CX p s m args meth c cc nL own rt G A Ts) (hT : TH G tt A s tag L F H locs) (h : STa t N n g A s s.heap) {v : Int32} (hv : Int32.ofNat N = v) (hdg : decode cc pc = .ok (.arraylength, 1))
    (kk : W p l e R s m args below meth c H locs cells slots Q (F0 m (pc + 1) ls (.int v :: rest))) : W p l e R s m args below meth c H locs cells slots Q (F0 m pc ls (.ref t :: rest)) :=
  va_tlen X.1.1 X.1.2.1 h.2 hT.2.2.1 hv hdg kk
end TS9
section TCP
variable {p : Program} {l : Launch} {e : Env} {R : Room} {s : State} {m : MethodId} {args : Array Value} {below : List Frame} {meth : Method} {c : Code} {H : Heap} {locs : List Loc} {cells slots : Nat} {Q : State → Prop}
variable {pc : Nat} {ls : Array Slot} {rest : List Value} {cc : ByteArray} {nL index : Nat} {own : String} {rt : Option FieldType} {G : KG} {A : Nat → Prop} {Ts : List Cond} {tt : TT} {tag : Nat → Nat} {L : List Nat} {F : Nat → va_E} {lv : List (Nat × Value)}
theorem m_ldcw (X : CX p s m args meth c cc nL own rt G A Ts) {v : Int32} (hw : Cond.constant own index v ∈ wsL_law) (hdg : decode cc pc = .ok (.ldc_w index, 3))
    (kk : W p l e R s m args below meth c H locs cells slots Q (F0 m (pc + 3) ls (.int v :: rest))) : W p l e R s m args below meth c H locs cells slots Q (F0 m pc ls rest) := lv_ldcw X.1.1 X.1.2.1 X.1.2.2.2.1 (X.1.2.2.2.2 _ (X.2.1 _ hw)) hdg kk
theorem t_copy (X : CX p s m args meth c cc nL own rt G A Ts) (hT : TH G tt A s tag L F H locs) (hls : lv_has ls nL lv) {a0 a1 : Nat} (h0 : a0 ∈ L) {t0 : Nat} (g0 : tag a0 = t0) (h1 : a1 ∈ L) {t1 : Nat} (g1 : tag a1 = t1) {n0 n1 : Nat} {iv0 iv1 : Nat → Int × Int} (i0 : tt t0 = .inr (0, n0, iv0)) (i1 : tt t1 = .inr (0, n1, iv1)) {sp dp n : Int32} (k1 : ¬ sp < 0) (k2 : ¬ dp < 0) (k3 : ¬ n < 0) (k4 : sp.toNatClampNeg + n.toNatClampNeg ≤ n0) (k5 : dp.toNatClampNeg + n.toNatClampNeg ≤ n1) (hv : ∀ i j : Nat, (iv1 j).1 ≤ (iv0 i).1 ∧ (iv0 i).2 ≤ (iv1 j).2)
    (w1 : Cond.methodLink own index arraycopyName ∈ wsL_law) (w2 : Cond.native arraycopyName ∈ wsL_law) (w3 : Cond.static arraycopyName ∈ wsL_law) (w4 : Cond.initialized "java/lang/System" ∈ wsL_law) (hframes : 1 ≤ R.frames) (hlocals : (rest.map fun v => v.category).sum + (nativeFrameWords "java/lang/System" "arraycopy" 5 + 11) ≤ R.locals) (hdg : decode cc pc = .ok (.invokestatic index, 3))
    (kk : ∀ (F1 : Nat → va_E) (H1 : Heap) (locs1 : List Loc), TH G tt A s tag L F1 H1 locs1 → (∀ b j : Nat, fld F1 b j = fld F b j) → (∀ b j : Nat, b ≠ a1 → elm F1 b j = elm F b j) → W p l e R s m args below meth c H1 locs1 cells slots Q (F0 m (pc + 3) ls rest)) : W p l e R s m args below meth c H locs cells slots Q (F0 m pc ls (.int n :: .int dp :: .ref a1 :: .int sp :: .ref a0 :: rest)) := by
  obtain ⟨q0, hq0⟩ := th_at hT h0
  obtain ⟨q1, hq1⟩ := th_at hT h1
  obtain ⟨f, hf, hfo⟩ := (th_arr hT h0 g0 i0 : okA G tag L (0, n0, iv0) (F a0))
  obtain ⟨g, hg, hgo⟩ := (th_arr hT h1 g1 i1 : okA G tag L (0, n1, iv1) (F a1))
  have hq2 := hq1
  rw [hf] at hq0
  rw [hg] at hq2
  refine va_copyi (D := G.1) X.1.1 X.1.2.1 (by rw [X.1.2.2.1]; exact hls.1.symm) X.1.2.2.2.1 (X.1.2.2.2.2 _ (X.2.1 _ w1)) (X.1.2.2.2.2 _ (X.2.1 _ w2)) (X.1.2.2.2.2 _ (X.2.1 _ w3)) (X.1.2.2.2.2 _ (X.2.1 _ w4)) X.2.2.1 hT.1 hT.2.1 hT.2.2.1 q0 q1 0 0 (ty := .int) hq0 hq2 rfl rfl rfl k1 k2 k3 k4 k5 (fun _ _ => rfl) hframes hlocals hdg (fun H1 locs1 hP hD hS => ?_)
  have ho : okE G tt tag L (tag a1) (.inl (G.2 0, n1, .inl (va_cpy f g sp.toNatClampNeg dp.toNatClampNeg n.toNatClampNeg))) := by
    unfold okE
    rw [g1, i1]
    refine ⟨_, rfl, fun j hj => ?_⟩
    by_cases hc : dp.toNatClampNeg ≤ j ∧ j < dp.toNatClampNeg + n.toNatClampNeg
    · rw [pk_cpy_in hc.1 hc.2]
      have hb := hfo (sp.toNatClampNeg + (j - dp.toNatClampNeg)) (show _ < n0 from by omega)
      have hb2 := hv (sp.toNatClampNeg + (j - dp.toNatClampNeg)) j
      exact ⟨Int.le_trans hb2.1 hb.1, Int.le_trans hb.2 hb2.2⟩
    · rw [pk_cpy_out (by omega)]
      exact hgo j hj
  refine kk (va_up F a1 _) H1 locs1 (th_up (D := G.1) hT h1 hq1 hP hD hS ho) ?_ ?_
  · intro b j
    by_cases hb : b = a1
    · subst hb
      simp [fld, va_up, hg]
    · simp [fld, va_up, hb]
  · intro b j hb
    simp [elm, va_up, hb]
end TCP
section TL
variable {p : Program} {l : Launch} {e : Env} {R : Room} {s : State} {m : MethodId} {args : Array Value} {below : List Frame} {meth : Method} {c : Code} {H : Heap} {locs : List Loc} {cells slots : Nat} {Q : State → Prop}
variable {pc : Nat} {ls : Array Slot} {rest st : List Value} {cc : ByteArray} {nL : Nat} {own : String} {rt : Option FieldType} {G : KG} {A : Nat → Prop} {Ts : List Cond} {a : Nat} {tt : TT} {tag : Nat → Nat} {L : List Nat} {F : Nat → va_E}
/-- what a field holds, without a step -/
theorem t_fld (hT : TH G tt A s tag L F H locs) (ha : a ∈ L) {t : Nat} (ht : tag a = t) {ci : Nat} {ts : List FT} (hi : tt t = .inl (ci, ts)) (k : Nat) {lo hi9 : Int} (hf : ts[k]? = some (0, lo, hi9)) : ∃ z : Int32, fld F a k = .int z ∧ lo ≤ z.toInt ∧ z.toInt ≤ hi9 := by
  obtain ⟨fs, hfs, hlen, hok⟩ := th_obj hT ha ht hi
  obtain ⟨v, hv, hvo⟩ := hok k _ hf
  obtain ⟨z, rfl, r⟩ := okV_i hvo
  refine ⟨z, ?_, r⟩
  unfold fld
  rw [hfs]
  simp [List.getD, hv]
theorem t_fldr (hT : TH G tt A s tag L F H locs) (ha : a ∈ L) {t : Nat} (ht : tag a = t) {ci : Nat} {ts : List FT} (hi : tt t = .inl (ci, ts)) (k : Nat) {t2 x2 : Int} (hf : ts[k]? = some (1, t2, x2)) : ∃ b : Nat, fld F a k = .ref b ∧ b ∈ L ∧ (tag b : Int) = t2 := by
  obtain ⟨fs, hfs, hlen, hok⟩ := th_obj hT ha ht hi
  obtain ⟨v, hv, hvo⟩ := hok k _ hf
  obtain ⟨z, rfl, r⟩ := okV_r hvo
  refine ⟨z, ?_, r⟩
  unfold fld
  rw [hfs]
  simp [List.getD, hv]
theorem t_lld (X : CX p s m args meth c cc nL own rt G A Ts) (hT : TH G tt A s tag L F H locs) (ha : a ∈ L) {t : Nat} (ht : tag a = t) {n : Nat} {iv : Nat → Int × Int} (hi : tt t = .inr (2, n, iv)) {i : Int32} (hin : 0 ≤ i.toInt ∧ i.toInt < n) (hdg : decode cc pc = .ok (.laload, 1))
    (kk : ∀ z : Int64, W p l e R s m args below meth c H locs cells slots Q (F0 m (pc + 1) ls (.long z :: rest))) : W p l e R s m args below meth c H locs cells slots Q (F0 m pc ls (.int i :: .ref a :: rest)) := by
  obtain ⟨q0, hq⟩ := th_at hT ha
  obtain ⟨f, hf⟩ := (th_arr hT ha ht hi : okA G tag L (2, n, iv) (F a))
  have hv : vp_in i n := vp_in_iff.mpr hin
  rw [hf] at hq
  exact va_lald (D := G.1) X.1.1 X.1.2.1 X.2.2.1 hT.1 q0 2 hq rfl hv hdg (kk _)
theorem t_lst (X : CX p s m args meth c cc nL own rt G A Ts) (hT : TH G tt A s tag L F H locs) (ha : a ∈ L) {t : Nat} (ht : tag a = t) {n : Nat} {iv : Nat → Int × Int} (hi : tt t = .inr (2, n, iv)) {i : Int32} {x : Int64} (hin : 0 ≤ i.toInt ∧ i.toInt < n) (hdg : decode cc pc = .ok (.lastore, 1))
    (kk : ∀ (F1 : Nat → va_E) (H1 : Heap) (locs1 : List Loc), TH G tt A s tag L F1 H1 locs1 → (∀ b j : Nat, elm F1 b j = elm F b j) → (∀ b j : Nat, fld F1 b j = fld F b j) → W p l e R s m args below meth c H1 locs1 cells slots Q (F0 m (pc + 1) ls rest)) : W p l e R s m args below meth c H locs cells slots Q (F0 m pc ls (.long x :: .int i :: .ref a :: rest)) := by
  obtain ⟨q0, hq⟩ := th_at hT ha
  obtain ⟨f, hf⟩ := (th_arr hT ha ht hi : okA G tag L (2, n, iv) (F a))
  have hv : vp_in i n := vp_in_iff.mpr hin
  have hq2 := hq
  rw [hf] at hq2
  refine va_last (D := G.1) X.1.1 X.1.2.1 X.2.2.1 hT.1 hT.2.1 hT.2.2.1 q0 2 hq2 rfl hv hdg (fun H1 locs1 hP hD hS => ?_)
  have ho : okE G tt tag L (tag a) (.inl (G.2 2, n, .inr (.inl (vp_updL f i.toNatClampNeg x)))) := by
    unfold okE
    rw [ht, hi]
    exact ⟨_, rfl⟩
  refine kk (va_up F a (.inl (G.2 2, n, .inr (.inl (vp_updL f i.toNatClampNeg x))))) H1 locs1 (th_up (D := G.1) hT ha hq hP hD hS ho) ?_ ?_
  · intro b j
    by_cases hb : b = a
    · subst hb
      simp [elm, va_up, hf]
    · simp [elm, va_up, hb]
  · intro b j
    by_cases hb : b = a
    · subst hb
      simp [fld, va_up, hf]
    · simp [fld, va_up, hb]
theorem m_lcmp (X : CX p s m args meth c cc nL own rt G A Ts) {x y : Int64} (hdg : decode cc pc = .ok (.lcmp, 1)) (k : ∀ z : Int32, -1 ≤ z.toInt ∧ z.toInt ≤ 1 → W p l e R s m args below meth c H locs cells slots Q (F0 m (pc + 1) ls (.int z :: rest))) : W p l e R s m args below meth c H locs cells slots Q (F0 m pc ls (.long y :: .long x :: rest)) := by
  have hexec := X.1.1
  have hb := X.1.2.1
  intro T hT X
  by_cases h1 : x > y
  · obtain ⟨t, a, b⟩ := k 1 (by decide) T hT X
    refine ⟨t, ?_, b⟩
    jvm_step X.here [X.here.top, hexec, hb, hdg, h1]
    exact a
  · by_cases h2 : x = y
    · subst h2
      obtain ⟨t, a, b⟩ := k 0 (by decide) T hT X
      refine ⟨t, ?_, b⟩
      jvm_step X.here [X.here.top, hexec, hb, hdg, h1]
      exact a
    · obtain ⟨t, a, b⟩ := k (-1) (by decide) T hT X
      refine ⟨t, ?_, b⟩
      jvm_step X.here [X.here.top, hexec, hb, hdg, h1, h2]
      exact a
end TL
/-- bounds of a row's elements: how many SKINS of each house, which STONE each SKIN is of -/
def rowIv (j : Nat) : Int × Int := if j < 4 then (0, 6) else if 12 ≤ j ∧ j < 204 ∧ j % 8 = 4 then (0, 3) else (-2147483648, 2147483647)
def rowIvM (j : Nat) : Int × Int := rowIv (j % 212)
def ttC : TT := fun t => match t with
  | 1 => .inr (0, 1000, fun _ => (0, 255))
  | 2 => .inr (1, 144, fun _ => (0, 1))
  | 3 => .inr (0, 20, fun _ => ((-2147483648), 2147483647))
  | 4 => .inr (0, 4, fun _ => (0, 11))
  | 5 => .inr (0, 4, fun _ => ((-2147483648), 2147483647))
  | 6 => .inr (0, 6, fun _ => (0, 3))
  | 7 => .inr (0, 6, fun _ => ((-2147483648), 2147483647))
  | 8 => .inr (0, 4, fun _ => (0, 6))
  | 9 => .inr (0, 192, fun _ => ((-2147483648), 2147483647))
  | 10 => .inr (0, 4, fun _ => (0, 3))
  | 11 => .inr (0, 6, fun _ => (0, 5))
  | 12 => .inr (0, 48, fun _ => ((-2147483648), 2147483647))
  | 13 => .inr (2, 20, fun _ => ((-2147483648), 2147483647))
  | 14 => .inr (0, 20, fun _ => ((-2147483648), 2147483647))
  | 15 => .inr (0, 20, fun _ => ((-2147483648), 2147483647))
  | 16 => .inr (4, 10, fun _ => (19, 0))
  | 17 => .inr (4, 3, fun _ => (19, 0))
  | 18 => .inl (1, [(0, 0, 12), (0, 0, 12), (0, 0, 1), (0, 0, 1), (0, (-2147483648), 2147483647), (0, (-2147483648), 2147483647), (0, (-2147483648), 2147483647), (1, 2, 0), (0, (-2147483648), 2147483647), (1, 3, 0), (0, 0, 4), (1, 4, 0), (1, 4, 0), (1, 5, 0), (0, 0, 6), (1, 6, 0), (0, 0, 6), (1, 7, 0), (1, 7, 0), (1, 7, 0)])
  | 19 => .inl (4, [(0, (-2147483648), 2147483647), (0, (-2147483648), 2147483647), (1, 8, 0), (1, 5, 0), (1, 5, 0), (1, 7, 0), (1, 9, 0)])
  | 20 => .inl (7, [(1, 10, 0), (1, 5, 0)])
  | 21 => .inl (0, [(1, 12, 0), (1, 12, 0)])
  | 22 => .inl (6, [(1, 11, 0), (1, 7, 0), (0, (-2147483648), 2147483647), (1, 7, 0), (1, 7, 0), (1, 7, 0)])
  | 23 => .inl (2, [(1, 16, 0), (1, 17, 0), (0, 0, 9), (0, 0, 10), (0, 0, 3)])
  | 24 => .inl (5, [(2, 1, 0), (0, 0, 1000), (0, 0, 1000), (0, (-2147483648), 2147483647), (0, 0, 1000), (0, (-2147483648), 2147483647), (0, (-2147483648), 2147483647), (3, 0, 0)])
  | 25 => .inl (3, [(1, 24, 0), (2, 18, 0), (2, 19, 0), (0, 0, 7), (0, (-2147483648), 2147483647), (0, 0, 1), (0, 0, 1), (0, (-2147483648), 2147483647), (0, (-2147483648), 2147483647), (1, 13, 0), (1, 14, 0), (1, 15, 0), (0, 0, 20)])
  | 26 => .inl (8, [(1, 1, 0), (0, 0, 1000), (0, 0, 1), (1, 18, 0), (1, 18, 0), (1, 19, 0), (1, 19, 0), (1, 19, 0), (1, 25, 0), (1, 20, 0), (1, 21, 0), (1, 22, 0), (1, 23, 0), (0, (-2147483648), 2147483647), (0, (-2147483648), 2147483647), (0, (-2147483648), 2147483647)])
  | 27 => .inr (3, 1000, fun _ => ((-2147483648), 2147483647))
  | 28 => .inr (1, 144, fun _ => (0, 1))
  | 29 => .inr (0, 4, fun _ => ((-2147483648), 2147483647))
  | 30 => .inr (0, 4, fun _ => (0, 143))
  | 31 => .inr (0, 4, fun _ => (0, 3))
  | 32 => .inr (0, 6, fun _ => (0, 3))
  | 33 => .inr (0, 6, fun _ => ((-2147483648), 2147483647))
  | 34 => .inr (2, 32, fun _ => ((-2147483648), 2147483647))
  | 35 => .inr (0, 32, fun _ => ((-2147483648), 2147483647))
  | 36 => .inr (0, 32, fun _ => ((-2147483648), 2147483647))
  | 37 => .inr (0, 212, rowIv)
  | 38 => .inr (0, 2120, rowIvM)
  | 39 => .inr (0, 636, rowIvM)
  | 40 => .inr (0, 4, fun _ => (0, 3))
  | 41 => .inr (0, 4, fun _ => ((-2147483648), 2147483647))
  | 42 => .inr (0, 48, fun _ => ((-2147483648), 2147483647))
  | 43 => .inr (0, 6, fun _ => (0, 5))
  | 44 => .inl (9, [(0, 0, 12), (0, 0, 12), (0, (-2147483648), 2147483647), (0, (-2147483648), 2147483647), (0, (-2147483648), 2147483647), (0, (-2147483648), 2147483647), (0, (-2147483648), 2147483647), (0, 0, 4), (0, 0, 4), (0, 0, 6), (0, 0, 6), (0, (-2147483648), 2147483647), (0, 0, 32), (0, 0, 1), (0, 0, 1), (1, 28, 0), (1, 29, 0), (1, 29, 0), (1, 29, 0), (1, 29, 0), (1, 29, 0), (1, 30, 0), (1, 31, 0), (1, 32, 0), (1, 33, 0), (1, 33, 0), (1, 33, 0), (1, 34, 0), (1, 35, 0), (1, 36, 0), (1, 37, 0)])
  | 45 => .inl (9, [(0, 1, 12), (0, 0, 12), (0, (-2147483648), 2147483647), (0, (-2147483648), 2147483647), (0, (-2147483648), 2147483647), (0, (-2147483648), 2147483647), (0, (-2147483648), 2147483647), (0, 0, 4), (0, 0, 4), (0, 0, 6), (0, 0, 6), (0, (-2147483648), 2147483647), (0, 0, 32), (0, 0, 1), (0, 0, 1), (1, 28, 0), (1, 29, 0), (1, 29, 0), (1, 29, 0), (1, 29, 0), (1, 29, 0), (1, 30, 0), (1, 31, 0), (1, 32, 0), (1, 33, 0), (1, 33, 0), (1, 33, 0), (1, 34, 0), (1, 35, 0), (1, 36, 0), (1, 37, 0)])
  | 46 => .inl (10, [(0, (-2147483648), 2147483647), (0, (-2147483648), 2147483647), (0, (-2147483648), 2147483647), (2, 45, 0), (4, 0, 0), (1, 27, 0), (0, 0, 1000), (0, 0, 1000), (0, 0, 1000), (0, 0, 5), (0, (-2147483648), 2147483647), (0, (-2147483648), 2147483647), (0, (-2147483648), 2147483647), (0, 0, 7), (0, (-2147483648), 2147483647), (3, 0, 0), (1, 37, 0), (1, 37, 0), (1, 38, 0), (1, 39, 0), (0, 0, 10), (0, 0, 3), (0, (-2147483648), 2147483647), (0, (-2147483648), 2147483647), (1, 40, 0), (1, 41, 0), (1, 42, 0), (1, 42, 0), (0, (-2147483648), 2147483647), (1, 43, 0), (1, 33, 0), (1, 33, 0), (1, 33, 0), (1, 33, 0), (1, 33, 0), (1, 33, 0), (0, (-2147483648), 2147483647)])
  | 47 => .inr (2, 1, fun _ => ((-2147483648), 2147483647))
  | 48 => .inl (4, [(4, 0, 0), (4, 0, 0), (4, 0, 0), (4, 0, 0), (4, 0, 0), (4, 0, 0), (4, 0, 0)])
  | 49 => .inl (1, [(4, 0, 0), (4, 0, 0), (4, 0, 0), (4, 0, 0), (4, 0, 0), (4, 0, 0), (4, 0, 0), (4, 0, 0), (4, 0, 0), (4, 0, 0), (4, 0, 0), (4, 0, 0), (4, 0, 0), (4, 0, 0), (4, 0, 0), (4, 0, 0), (4, 0, 0), (4, 0, 0), (4, 0, 0), (4, 0, 0)])
  | 50 => .inl (7, [(4, 0, 0), (4, 0, 0)])
  | 51 => .inl (0, [(4, 0, 0), (4, 0, 0)])
  | 52 => .inl (6, [(4, 0, 0), (4, 0, 0), (4, 0, 0), (4, 0, 0), (4, 0, 0), (4, 0, 0)])
  | 53 => .inl (2, [(4, 0, 0), (4, 0, 0), (4, 0, 0), (4, 0, 0), (4, 0, 0)])
  | 54 => .inl (5, [(4, 0, 0), (4, 0, 0), (4, 0, 0), (4, 0, 0), (4, 0, 0), (4, 0, 0), (4, 0, 0), (4, 0, 0)])
  | 55 => .inl (3, [(4, 0, 0), (4, 0, 0), (4, 0, 0), (4, 0, 0), (4, 0, 0), (4, 0, 0), (4, 0, 0), (4, 0, 0), (4, 0, 0), (4, 0, 0), (4, 0, 0), (4, 0, 0), (4, 0, 0)])
  | 56 => .inl (8, [(4, 0, 0), (4, 0, 0), (4, 0, 0), (4, 0, 0), (4, 0, 0), (4, 0, 0), (4, 0, 0), (4, 0, 0), (4, 0, 0), (4, 0, 0), (4, 0, 0), (4, 0, 0), (4, 0, 0), (4, 0, 0), (4, 0, 0), (4, 0, 0)])
  | 57 => .inl (9, [(4, 0, 0), (4, 0, 0), (4, 0, 0), (4, 0, 0), (4, 0, 0), (4, 0, 0), (4, 0, 0), (4, 0, 0), (4, 0, 0), (4, 0, 0), (4, 0, 0), (4, 0, 0), (4, 0, 0), (4, 0, 0), (4, 0, 0), (4, 0, 0), (4, 0, 0), (4, 0, 0), (4, 0, 0), (4, 0, 0), (4, 0, 0), (4, 0, 0), (4, 0, 0), (4, 0, 0), (4, 0, 0), (4, 0, 0), (4, 0, 0), (4, 0, 0), (4, 0, 0), (4, 0, 0), (4, 0, 0)])
  | 58 => .inl (10, [(4, 0, 0), (4, 0, 0), (4, 0, 0), (4, 0, 0), (4, 0, 0), (4, 0, 0), (4, 0, 0), (4, 0, 0), (4, 0, 0), (4, 0, 0), (4, 0, 0), (4, 0, 0), (4, 0, 0), (4, 0, 0), (4, 0, 0), (4, 0, 0), (4, 0, 0), (4, 0, 0), (4, 0, 0), (4, 0, 0), (4, 0, 0), (4, 0, 0), (4, 0, 0), (4, 0, 0), (4, 0, 0), (4, 0, 0), (4, 0, 0), (4, 0, 0), (4, 0, 0), (4, 0, 0), (4, 0, 0), (4, 0, 0), (4, 0, 0), (4, 0, 0), (4, 0, 0), (4, 0, 0), (4, 0, 0)])
  | 59 => .inr (6, 10, fun _ => ((-2147483648), 2147483647))
  | 60 => .inr (6, 3, fun _ => ((-2147483648), 2147483647))
  | _ => .inr (0, 0, fun _ => (0, 0))
/-! the pair of rows, sorts and numbers -/
def nsT (tag : Nat → Nat) (b : Nat) : Prop := tag b = 14 ∨ tag b = 15
def EF (tag : Nat → Nat) (F1 F0 : Nat → va_E) : Prop := ∀ b j : Nat, nsT tag b → elm F1 b j = elm F0 b j
theorem ns_ne {tag : Nat → Nat} {a b t : Nat} (hb : nsT tag b) (ha : tag a = t) (h : t ≠ 14 ∧ t ≠ 15) : b ≠ a := by
  intro q
  subst q
  rcases hb with hb | hb
  · exact h.1 (ha.symm.trans hb)
  · exact h.2 (ha.symm.trans hb)
theorem tne {tag : Nat → Nat} {a b t u : Nat} (ha : tag a = t) (hb : tag b = u) (h : t ≠ u) : a ≠ b := by
  intro q
  subst q
  exact h (ha.symm.trans hb)
def NSQ (F : Nat → va_E) (xs xn j : Nat) : Prop := (elm F xs j = 4 → 0 ≤ (elm F xn j).toInt ∧ (elm F xn j).toInt ≤ 3) ∧ (elm F xs j = 7 → 0 ≤ (elm F xn j).toInt ∧ (elm F xn j).toInt ≤ 5)
def NSR (F : Nat → va_E) (xs xn : Nat) : Prop := ∀ j : Nat, NSQ F xs xn j
theorem nsr_of {F F1 : Nat → va_E} {xs xn : Nat} (h1 : ∀ j : Nat, elm F1 xs j = elm F xs j) (h2 : ∀ j : Nat, elm F1 xn j = elm F xn j) (h : NSR F xs xn) : NSR F1 xs xn := by
  intro j
  have h3 := h j
  unfold NSQ at h3 ⊢
  rw [h1, h2]
  exact h3
theorem nsr_s {F F1 : Nat → va_E} {xs xn k : Nat} (h : NSR F xs xn) (h1 : ∀ b j : Nat, (b ≠ xs ∨ j ≠ k) → elm F1 b j = elm F b j) (hne : xn ≠ xs) : ∀ j : Nat, j ≠ k → NSQ F1 xs xn j := by
  intro j hj
  have h3 := h j
  unfold NSQ at h3 ⊢
  rw [h1 xs j (Or.inr hj), h1 xn j (Or.inl hne)]
  exact h3
theorem nsr_n {F F1 : Nat → va_E} {xs xn k : Nat} {x y : Int32} (h : ∀ j : Nat, j ≠ k → NSQ F xs xn j) (hx : elm F xs k = x) (h1 : ∀ b j : Nat, (b ≠ xn ∨ j ≠ k) → elm F1 b j = elm F b j) (hy : elm F1 xn k = y) (hne : xs ≠ xn) (hb : (x = 4 → 0 ≤ y.toInt ∧ y.toInt ≤ 3) ∧ (x = 7 → 0 ≤ y.toInt ∧ y.toInt ≤ 5)) : NSR F1 xs xn := by
  intro j
  by_cases hj : j = k
  · subst hj
    unfold NSQ
    rw [h1 xs j (Or.inl hne), hx, hy]
    exact hb
  · have h3 := h j hj
    unfold NSQ at h3 ⊢
    rw [h1 xs j (Or.inr hj), h1 xn j (Or.inr hj)]
    exact h3
theorem i32_of {z c : Int32} (h : z.toInt = c.toInt) : z = c := Int32.toInt_inj.mp h
theorem nsr_4 {F : Nat → va_E} {xs xn k : Nat} {x y : Int32} (h : NSR F xs xn) (hx : elm F xs k = x) (hy : elm F xn k = y) (h4 : x.toInt = 4) : 0 ≤ y.toInt ∧ y.toInt ≤ 3 := by
  have h1 := (h k).1 (hx.trans (i32_of h4))
  rw [hy] at h1
  exact h1
theorem nsr_7 {F : Nat → va_E} {xs xn k : Nat} {x y : Int32} (h : NSR F xs xn) (hx : elm F xs k = x) (hy : elm F xn k = y) (h7 : x.toInt = 7) : 0 ≤ y.toInt ∧ y.toInt ≤ 5 := by
  have h1 := (h k).2 (hx.trans (i32_of h7))
  rw [hy] at h1
  exact h1
