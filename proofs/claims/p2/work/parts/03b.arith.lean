theorem fb_rng (x : Int32) : -2147483648 ≤ x.toInt ∧ x.toInt < 2147483648 := by
  have h1 := Int32.le_toInt x
  have h2 := Int32.toInt_lt x
  omega
theorem fb_bmod {z : Int} (h1 : -2147483648 ≤ z) (h2 : z < 2147483648) : z.bmod (2 ^ 32) = z := by
  rw [Int.bmod_eq_of_le (by omega) (by omega)]
theorem fb_addI {x y : Int32} (h1 : -2147483648 ≤ x.toInt + y.toInt) (h2 : x.toInt + y.toInt < 2147483648) : (x + y).toInt = x.toInt + y.toInt := by
  rw [Int32.toInt_add, fb_bmod h1 h2]
theorem fb_subI {x y : Int32} (h1 : -2147483648 ≤ x.toInt - y.toInt) (h2 : x.toInt - y.toInt < 2147483648) : (x - y).toInt = x.toInt - y.toInt := by
  rw [Int32.toInt_sub, fb_bmod h1 h2]
theorem fb_mulI {x y : Int32} (h1 : -2147483648 ≤ x.toInt * y.toInt) (h2 : x.toInt * y.toInt < 2147483648) : (x * y).toInt = x.toInt * y.toInt := by
  rw [Int32.toInt_mul, fb_bmod h1 h2]
theorem fb_negI {x : Int32} (h : x.toInt ≠ -2147483648) : (-x).toInt = -x.toInt := by
  have := fb_rng x
  rw [Int32.toInt_neg, fb_bmod (by omega) (by omega)]
theorem rg_all (x : Int32) : -2147483648 ≤ x.toInt ∧ x.toInt ≤ 2147483647 := by
  have := fb_rng x
  omega
theorem cv_lt {x y : Int32} {a b : Int} (hx : x.toInt = a) (hy : y.toInt = b) (h : x < y) : a < b := by
  rw [← hx, ← hy]; exact Int32.lt_iff_toInt_lt.mp h
theorem cv_le {x y : Int32} {a b : Int} (hx : x.toInt = a) (hy : y.toInt = b) (h : x ≤ y) : a ≤ b := by
  rw [← hx, ← hy]; exact Int32.le_iff_toInt_le.mp h
theorem cv_nlt {x y : Int32} {a b : Int} (hx : x.toInt = a) (hy : y.toInt = b) (h : ¬ x < y) : b ≤ a := cv_le hy hx (Int32.not_lt.mp h)
theorem cv_nle {x y : Int32} {a b : Int} (hx : x.toInt = a) (hy : y.toInt = b) (h : ¬ x ≤ y) : b < a := cv_lt hy hx (Int32.not_le.mp h)
theorem cv_eq {x y : Int32} {a b : Int} (hx : x.toInt = a) (hy : y.toInt = b) (h : x = y) : a = b := by rw [← hx, ← hy, h]
theorem cv_ne {x y : Int32} {a b : Int} (hx : x.toInt = a) (hy : y.toInt = b) (h : ¬ x = y) : a ≠ b := by
  rw [← hx, ← hy]; exact fun q => h (Int32.toInt_inj.mp q)
theorem ar_add {x y z : Int32} {a b : Int} (ez : z = x + y) (hx : x.toInt = a) (hy : y.toInt = b) (h1 : -2147483648 ≤ a + b) (h2 : a + b ≤ 2147483647) : z.toInt = a + b := by
  subst hx; subst hy; rw [ez]; exact fb_addI h1 (by omega)
theorem ar_sub {x y z : Int32} {a b : Int} (ez : z = x - y) (hx : x.toInt = a) (hy : y.toInt = b) (h1 : -2147483648 ≤ a - b) (h2 : a - b ≤ 2147483647) : z.toInt = a - b := by
  subst hx; subst hy; rw [ez]; exact fb_subI h1 (by omega)
theorem ar_mul {x y z : Int32} {a b : Int} (ez : z = x * y) (hx : x.toInt = a) (hy : y.toInt = b) (h1 : -2147483648 ≤ a * b) (h2 : a * b ≤ 2147483647) : z.toInt = a * b := by
  subst hx; subst hy; rw [ez]; exact fb_mulI h1 (by omega)
theorem ar_neg {x z : Int32} {a : Int} (ez : z = -x) (hx : x.toInt = a) (h : -2147483648 < a) : z.toInt = -a := by
  subst hx; rw [ez]; exact fb_negI (by omega)
theorem ar_mulb {x y z : Int32} {A B C : Int} (ez : z = x * y) (hx : 0 ≤ x.toInt ∧ x.toInt ≤ A) (hy : 0 ≤ y.toInt ∧ y.toInt ≤ B) (hC : A * B = C) (h : C ≤ 2147483647) : 0 ≤ z.toInt ∧ z.toInt ≤ C := by
  have h0 : 0 ≤ x.toInt * y.toInt := Int.mul_nonneg hx.1 hy.1
  have h1 : x.toInt * y.toInt ≤ A * B := Int.mul_le_mul hx.2 hy.2 hy.1 (Int.le_trans hx.1 hx.2)
  rw [hC] at h1
  rw [ez, fb_mulI (by omega) (by omega)]
  exact ⟨h0, h1⟩
theorem ne0_of {y : Int32} (h : 0 < y.toInt) : ¬ y = 0 := fun q => by
  rw [q] at h
  exact absurd h (by decide)
theorem nn_of {x : Int32} (h : 0 ≤ x.toInt) : ∃ j : Nat, j < 2 ^ 31 ∧ x = nI j ∧ x.toInt = (j : Int) := by
  obtain ⟨j, hj, e⟩ := nI_of (x := x) (fun q => by
    have h1 := cv_lt rfl (by decide : (0 : Int32).toInt = 0) q
    omega)
  exact ⟨j, hj, e, by rw [e]; exact nI_toInt hj⟩
theorem ar_div {x y z : Int32} {a b : Int} (ez : z = x / y) (hx : x.toInt = a) (hy : y.toInt = b) (h1 : 0 ≤ a) (h2 : 0 < b) : z.toInt = a / b := by
  obtain ⟨j, hj, ej, tj⟩ := nn_of (x := x) (by omega)
  obtain ⟨k, hk, ek, tk⟩ := nn_of (x := y) (by omega)
  have hk0 : 0 < k := by omega
  rw [ez, ej, ek, pk_div hj hk0 hk, nI_toInt (Nat.lt_of_le_of_lt (Nat.div_le_self j k) hj), ← hx, ← hy, tj, tk]
  rfl
theorem ar_rem {x y z : Int32} {a b : Int} (ez : z = x - x / y * y) (hx : x.toInt = a) (hy : y.toInt = b) (h1 : 0 ≤ a) (h2 : 0 < b) : z.toInt = a % b := by
  obtain ⟨j, hj, ej, tj⟩ := nn_of (x := x) (by omega)
  obtain ⟨k, hk, ek, tk⟩ := nn_of (x := y) (by omega)
  have hk0 : 0 < k := by omega
  rw [ez, ej, ek, pk_rem hj hk0 hk, nI_toInt (Nat.lt_of_le_of_lt (Nat.mod_le j k) hj), ← hx, ← hy, tj, tk]
  rfl
theorem ar_divv {x y z : Int32} {A : Int} (ez : z = x / y) (hx : 0 ≤ x.toInt ∧ x.toInt ≤ A) (hy : 1 ≤ y.toInt) : 0 ≤ z.toInt ∧ z.toInt ≤ A := by
  have h := ar_div ez rfl rfl hx.1 (by omega)
  have h1 := Int.ediv_nonneg hx.1 (b := y.toInt) (by omega)
  have h2 := Int.ediv_le_self y.toInt hx.1
  omega
theorem ar_remv {x y z : Int32} (ez : z = x - x / y * y) (hx : 0 ≤ x.toInt) (hy : 1 ≤ y.toInt) : 0 ≤ z.toInt ∧ z.toInt < y.toInt ∧ z.toInt ≤ x.toInt := by
  obtain ⟨j, hj, ej, tj⟩ := nn_of (x := x) hx
  obtain ⟨k, hk, ek, tk⟩ := nn_of (x := y) (by omega)
  have hk0 : 0 < k := by omega
  have h1 := Nat.mod_le j k
  have h2 := Nat.mod_lt j hk0
  have h3 : z.toInt = ((j % k : Nat) : Int) := by rw [ez, ej, ek, pk_rem hj hk0 hk, nI_toInt (by omega)]
  omega
theorem ar_and {x c z : Int32} {C : Int} (ez : z = x &&& c) (k : Nat) (hm : c.toBitVec.toNat = 2 ^ k - 1) (hk : ((2 ^ k - 1 : Nat) : Int) = C ∧ k ≤ 30) : 0 ≤ z.toInt ∧ z.toInt ≤ C := by
  rw [ez, pk_and x k hm]
  have h0 : 0 < 2 ^ k := Nat.pow_pos (by decide)
  have h1 : x.toBitVec.toNat % 2 ^ k < 2 ^ k := Nat.mod_lt _ h0
  have h2 : 2 ^ k ≤ 2 ^ 30 := Nat.pow_le_pow_right (by decide) hk.2
  rw [nI_toInt (by omega), ← hk.1]
  omega
theorem ar_and2 {x c z : Int32} {C : Int} (ez : z = c &&& x) (k : Nat) (hm : c.toBitVec.toNat = 2 ^ k - 1) (hk : ((2 ^ k - 1 : Nat) : Int) = C ∧ k ≤ 30) : 0 ≤ z.toInt ∧ z.toInt ≤ C := ar_and (x := x) (c := c) (by rw [ez, Int32.and_comm]) k hm hk
theorem mul2_ne {y z : Int32} (ez : z = 2 * y) (h : 1 ≤ y.toInt) : ¬ z = 0 := fun q => by
  obtain ⟨j, hj, ej, tj⟩ := nn_of (x := y) (by omega)
  rw [ez, ej, show (2 : Int32) = nI 2 from rfl, pk_mul] at q
  have h1 := pk_tn (n := 2 * j) (by omega)
  rw [q] at h1
  have h2 : (0 : Int32).toBitVec.toNat = 0 := by decide
  omega
theorem mul2_ne2 {y z : Int32} (ez : z = y * 2) (h : 1 ≤ y.toInt) : ¬ z = 0 := mul2_ne (y := y) (by rw [ez, Int32.mul_comm]) h
theorem z01 {z : Int32} (h : 0 ≤ z.toInt ∧ z.toInt ≤ 1) : z = 0 ∨ z = 1 := by
  by_cases h1 : z.toInt = 0
  · exact Or.inl (Int32.toInt_inj.mp (by rw [h1]; decide))
  · exact Or.inr (Int32.toInt_inj.mp (by rw [show z.toInt = 1 by omega]; decide))
theorem nar_z {z : Int32} (h : 0 ≤ z.toInt ∧ z.toInt ≤ 1) : narrow .boolean (.int z) = .int z := by
  rcases z01 h with rfl | rfl <;> decide
theorem fit_z {z : Int32} (h : 0 ≤ z.toInt ∧ z.toInt ≤ 1) : fits .boolean (.int z) = true := by
  rcases z01 h with rfl | rfl <;> decide
theorem narb {z : Int32} (h : 0 ≤ z.toInt ∧ z.toInt ≤ 1) : 0 ≤ (vp_nar .boolean z).toInt ∧ (vp_nar .boolean z).toInt ≤ 1 := by
  rcases z01 h with rfl | rfl <;> decide
theorem mmax_e {x y z : Int32} {a b : Int} (ez : z = if x < y then y else x) (hx : x.toInt = a) (hy : y.toInt = b) : a ≤ z.toInt ∧ b ≤ z.toInt ∧ (z.toInt = a ∨ z.toInt = b) := by
  by_cases h : x < y
  · have h1 := cv_lt hx hy h
    rw [ez, if_pos h]
    omega
  · have h1 := cv_nlt hx hy h
    rw [ez, if_neg h]
    omega
theorem mmin_e {x y z : Int32} {a b : Int} (ez : z = if y < x then y else x) (hx : x.toInt = a) (hy : y.toInt = b) : z.toInt ≤ a ∧ z.toInt ≤ b ∧ (z.toInt = a ∨ z.toInt = b) := by
  by_cases h : y < x
  · have h1 := cv_lt hy hx h
    rw [ez, if_pos h]
    omega
  · have h1 := cv_nlt hy hx h
    rw [ez, if_neg h]
    omega
theorem mabs_e {x z : Int32} {a : Int} (ez : z = if 0 ≤ x then x else 0 - x) (hx : x.toInt = a) (h0 : -2147483648 < a) : 0 ≤ z.toInt ∧ (z.toInt = a ∨ z.toInt = -a) := by
  by_cases h : (0 : Int32) ≤ x
  · have h1 := cv_le (by decide : (0 : Int32).toInt = 0) hx h
    rw [ez, if_pos h]
    omega
  · have h1 := cv_nle (by decide : (0 : Int32).toInt = 0) hx h
    have h2 := ar_sub (ez.trans (if_neg h)) (by decide : (0 : Int32).toInt = 0) hx (by omega) (by omega)
    omega
section TM
variable {p : Program} {l : Launch} {e : Env} {R : Room} {s : State} {m : MethodId} {args : Array Value} {below : List Frame} {meth : Method} {c : Code} {H : Heap} {locs : List Loc} {cells slots : Nat} {Q : State → Prop}
variable {pc : Nat} {ls : Array Slot} {rest : List Value} {cc : ByteArray} {nL index : Nat} {own : String} {rt : Option FieldType} {G : KG} {A : Nat → Prop} {Ts : List Cond} {lv : List (Nat × Value)}
theorem t_mmax (X : CX p s m args meth c cc nL own rt G A Ts) (hls : lv_has ls nL lv) (v1 : Cond.methodLink own index Lib.Math.max.name ∈ wsL_law) (v2 : Cond.static Lib.Math.max.name ∈ wsL_law) (v3 : Cond.initialized "java/lang/Math" ∈ wsL_law) (v4 : Cond.code Lib.Math.max.name Lib.Math.max.code 2 (some .int) ∈ wsL_law) (hframes : 1 ≤ R.frames) (hlocals : (rest.map fun v => v.category).sum + 13 ≤ R.locals) (hc : cells ≤ R.cells) (hs : slots ≤ R.slots) {x y : Int32} (hdg : decode cc pc = .ok (.invokestatic index, 3)) (kk : ∀ z : Int32, z = (if x < y then y else x) → W p l e R s m args below meth c H locs cells slots Q (F0 m (pc + 3) ls (.int z :: rest))) : W p l e R s m args below meth c H locs cells slots Q (F0 m pc ls (.int y :: .int x :: rest)) :=
  va_mmax X.1.1 X.1.2.1 (by rw [X.1.2.2.1]; exact hls.1.symm) X.1.2.2.2.1 (X.1.2.2.2.2 _ (X.2.1 _ v1)) (X.1.2.2.2.2 _ (X.2.1 _ v2)) (X.1.2.2.2.2 _ (X.2.1 _ v3)) (X.1.2.2.2.2 _ (X.2.1 _ v4)) hframes hlocals hc hs hdg (kk _ rfl)
theorem t_mmin (X : CX p s m args meth c cc nL own rt G A Ts) (hls : lv_has ls nL lv) (v1 : Cond.methodLink own index Lib.Math.min.name ∈ wsL_law) (v2 : Cond.static Lib.Math.min.name ∈ wsL_law) (v3 : Cond.initialized "java/lang/Math" ∈ wsL_law) (v4 : Cond.code Lib.Math.min.name Lib.Math.min.code 2 (some .int) ∈ wsL_law) (hframes : 1 ≤ R.frames) (hlocals : (rest.map fun v => v.category).sum + 13 ≤ R.locals) (hc : cells ≤ R.cells) (hs : slots ≤ R.slots) {x y : Int32} (hdg : decode cc pc = .ok (.invokestatic index, 3)) (kk : ∀ z : Int32, z = (if y < x then y else x) → W p l e R s m args below meth c H locs cells slots Q (F0 m (pc + 3) ls (.int z :: rest))) : W p l e R s m args below meth c H locs cells slots Q (F0 m pc ls (.int y :: .int x :: rest)) :=
  va_mmin X.1.1 X.1.2.1 (by rw [X.1.2.2.1]; exact hls.1.symm) X.1.2.2.2.1 (X.1.2.2.2.2 _ (X.2.1 _ v1)) (X.1.2.2.2.2 _ (X.2.1 _ v2)) (X.1.2.2.2.2 _ (X.2.1 _ v3)) (X.1.2.2.2.2 _ (X.2.1 _ v4)) hframes hlocals hc hs hdg (kk _ rfl)
theorem t_mabs (X : CX p s m args meth c cc nL own rt G A Ts) (hls : lv_has ls nL lv) (v1 : Cond.methodLink own index Lib.Math.abs.name ∈ wsL_law) (v2 : Cond.static Lib.Math.abs.name ∈ wsL_law) (v3 : Cond.initialized "java/lang/Math" ∈ wsL_law) (v4 : Cond.code Lib.Math.abs.name Lib.Math.abs.code 1 (some .int) ∈ wsL_law) (hframes : 1 ≤ R.frames) (hlocals : (rest.map fun v => v.category).sum + 13 ≤ R.locals) (hc : cells ≤ R.cells) (hs : slots ≤ R.slots) {x : Int32} (hdg : decode cc pc = .ok (.invokestatic index, 3)) (kk : ∀ z : Int32, z = (if 0 ≤ x then x else 0 - x) → W p l e R s m args below meth c H locs cells slots Q (F0 m (pc + 3) ls (.int z :: rest))) : W p l e R s m args below meth c H locs cells slots Q (F0 m pc ls (.int x :: rest)) :=
  va_mabs X.1.1 X.1.2.1 (by rw [X.1.2.2.1]; exact hls.1.symm) X.1.2.2.2.1 (X.1.2.2.2.2 _ (X.2.1 _ v1)) (X.1.2.2.2.2 _ (X.2.1 _ v2)) (X.1.2.2.2.2 _ (X.2.1 _ v3)) (X.1.2.2.2.2 _ (X.2.1 _ v4)) hframes hlocals hc hs hdg (kk _ rfl)
end TM
theorem fr_ne {tag : Nat → Nat} {a b t j k : Nat} (ht : tag a = t) (n : tag b ≠ t ∨ j ≠ k) : b ≠ a ∨ j ≠ k := n.imp (fun h q => h (by rw [q]; exact ht)) id
theorem ar_shr0 {x z : Int32} (e : z = x >>> ((0 : Int32) &&& 31)) : z = x := by
  rw [e, show ((0 : Int32) &&& 31) = 0 from by decide]
  simp
