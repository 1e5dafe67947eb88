set_option maxHeartbeats 4000000 in
set_option maxRecDepth 100000 in
theorem kt187_X11_through (l : Launch) (G : KG) (tag : Nat → Nat) (L : List Nat) (Fo : Nat → va_E) (ho : okT G ttC tag L Fo) (p0 : Nat) (p1 : Int32) (p2 : Int32) (m0 : p0 ∈ L) (g0 : tag p0 = 26) : TMi l yX11_through cX11_through 3 (some .int) { frames := 6, cells := 0, slots := 0, locals := 149 } G ttC tag L Fo [.ref p0, .int p1, .int p2] (fun r F1 => ((-2147483648) ≤ r.toInt ∧ r.toInt ≤ 2147483647) ∧ (∀ b j : Nat, (tag b ≠ 21 ∨ j ≠ 0) → (tag b ≠ 21 ∨ j ≠ 1) → (tag b ≠ 26 ∨ j ≠ 13) → fld F1 b j = fld Fo b j)) := by
  refine t_bodyi (y := yX11_through) (cd := cX11_through) (mL := 3) (rt := (some .int)) (rm := { frames := 6, cells := 0, slots := 0, locals := 149 }) (av := [.ref p0, .int p1, .int p2]) (by decide) (Nat.le_of_ble_eq_true rfl) ho ?_
  intro p e s m args below meth c ls A Q hQ X hT hl
  have hx := X.1.1
  have hb := X.1.2.1
  have hl : lv_has ls 3 [(0, .ref p0), (1, .int p1), (2, .int p2)] := hl
  have rp1 := rg_all p1
  have rp2 := rg_all p2
  obtain ⟨F, hFo⟩ : ∃ F : Nat → va_E, F = Fo := ⟨_, rfl⟩
  rw [← hFo] at hT
  have hfr : ∀ b j : Nat, (tag b ≠ 21 ∨ j ≠ 0) → (tag b ≠ 21 ∨ j ≠ 1) → (tag b ≠ 26 ∨ j ≠ 13) → fld F b j = fld Fo b j := by
    rw [hFo]
    intros
    rfl
  refine lv_aload_n hx hb dX11_through_0 rfl (lv_at hl 0 rfl) ?_
  refine lv_iload_n hx hb dX11_through_1 rfl (lv_at hl 1 rfl) ?_
  refine lv_iload_n hx hb dX11_through_2 rfl (lv_at hl 2 rfl) ?_
  refine t_cVi (n := 2) (C := RX11) (T := TX11) (N := 16) (As := [.int p1, .int p2]) (rest := []) X hT (kt94_X11_isRoom l G tag L F hT.2.2.2 p0 p1 p2 m0 g0) m0 g0 rfl rfl qw_827 qw_828 qw_829 qw_2 qw_830 ⟨rfl, by decide +kernel, by decide +kernel, by decide +kernel⟩ ⟨Nat.le_of_ble_eq_true rfl, Nat.le_of_ble_eq_true rfl⟩ hl rfl rfl (Nat.le_of_ble_eq_true rfl) dX11_through_3 ⟨Nat.le_of_ble_eq_true rfl, Nat.le_of_ble_eq_true rfl⟩ (fun z67845 F9 H locs hT hz67845 => ?_)
  obtain ⟨fz67845, hz67845⟩ := hz67845
  rw [fz67845] at hT
  obtain ⟨hz67845, iz67845⟩ := hz67845
  refine lv_if_ne (tgt := 15) hx hb dX11_through_6 (by decide) (fun c67846 => ?_) (fun c67846 => ?_)
  · have w67847 := cv_ne (rfl : z67845.toInt = z67845.toInt) (by decide : (0 : Int32).toInt = 0) c67846
    have w67848 := (fun h => (iz67845 h).1) (by omega)
    have w67849 := (fun h => (iz67845 h).2) (by omega)
    refine lv_aload_n hx hb dX11_through_15 rfl (lv_at hl 0 rfl) ?_
    refine lv_aload_n hx hb dX11_through_16 rfl (lv_at hl 0 rfl) ?_
    refine t_get (C := RX11) (T := TX11) (N := 16) X hT m0 g0 rfl rfl 10 (by decide) qw_37 inlX11 rfl dX11_through_17 (fun v67850 hv67850 ov67850 => ?_)
    obtain ⟨b67851, rfl, mb67851, gb67851⟩ := okV_r ov67850
    have gb67851 : tag b67851 = 21 := tg_of gb67851
    refine lv_aload_n hx hb dX11_through_20 rfl (lv_at hl 0 rfl) ?_
    refine t_get (C := RX11) (T := TX11) (N := 16) X hT m0 g0 rfl rfl 3 (by decide) qw_18 inlX11 rfl dX11_through_21 (fun v67852 hv67852 ov67852 => ?_)
    obtain ⟨b67853, rfl, mb67853, gb67853⟩ := okV_r ov67852
    have gb67853 : tag b67853 = 18 := tg_of gb67853
    refine lv_aload_n hx hb dX11_through_24 rfl (lv_at hl 0 rfl) ?_
    refine t_get (C := RX11) (T := TX11) (N := 16) X hT m0 g0 rfl rfl 5 (by decide) qw_23 inlX11 rfl dX11_through_25 (fun v67854 hv67854 ov67854 => ?_)
    obtain ⟨b67855, rfl, mb67855, gb67855⟩ := okV_r ov67854
    have gb67855 : tag b67855 = 19 := tg_of gb67855
    refine lv_iload_n hx hb dX11_through_28 rfl (lv_at hl 1 rfl) ?_
    refine lv_iload_n hx hb dX11_through_29 rfl (lv_at hl 2 rfl) ?_
    refine t_cVi (n := 4) (C := RX0) (T := TX0) (N := 2) (As := [.ref b67853, .ref b67855, .int p1, .int p2]) (rest := [.ref p0]) X hT (kt95_X0_cheapest l G tag L F hT.2.2.2 b67851 b67853 b67855 p1 p2 mb67851 gb67851 mb67853 gb67853 mb67855 gb67855 (by omega)) mb67851 gb67851 rfl rfl qw_1012 qw_1013 qw_1014 qw_36 qw_1015 ⟨rfl, by decide +kernel, by decide +kernel, by decide +kernel⟩ ⟨Nat.le_of_ble_eq_true rfl, Nat.le_of_ble_eq_true rfl⟩ hl rfl rfl (Nat.le_of_ble_eq_true rfl) dX11_through_30 ⟨Nat.le_of_ble_eq_true rfl, Nat.le_of_ble_eq_true rfl⟩ (fun z67856 F H locs hT hz67856 => ?_)
    obtain ⟨hz67856, yz67856⟩ := hz67856
    have hv67850 := (yz67856 _ 10 (Or.inr (by decide)) (Or.inr (by decide))).trans hv67850
    have hv67852 := (yz67856 _ 3 (Or.inr (by decide)) (Or.inr (by decide))).trans hv67852
    have hv67854 := (yz67856 _ 5 (Or.inr (by decide)) (Or.inr (by decide))).trans hv67854
    have hfr : ∀ b j : Nat, (tag b ≠ 21 ∨ j ≠ 0) → (tag b ≠ 21 ∨ j ≠ 1) → (tag b ≠ 26 ∨ j ≠ 13) → fld F b j = fld Fo b j := fun b j n21_0 n21_1 n26_13 => (yz67856 b j n21_0 n21_1).trans (hfr b j n21_0 n21_1 n26_13)
    refine lv_bipush (v := 8) hx hb dX11_through_33 (by decide) ?_
    refine lv_idiv hx hb dX11_through_35 (by decide) ?_
    refine lv_topi (fun z67857 ez67857 => ?_)
    have rz67857 := rg_all z67857
    refine t_cVi (n := 1) (C := RX11) (T := TX11) (N := 16) (As := [.int z67857]) (rest := []) X hT (kt96_X11_answer l G tag L F hT.2.2.2 p0 z67857 m0 g0) m0 g0 rfl rfl qw_463 qw_464 qw_465 qw_2 qw_466 ⟨rfl, by decide +kernel, by decide +kernel, by decide +kernel⟩ ⟨Nat.le_of_ble_eq_true rfl, Nat.le_of_ble_eq_true rfl⟩ hl rfl rfl (Nat.le_of_ble_eq_true rfl) dX11_through_36 ⟨Nat.le_of_ble_eq_true rfl, Nat.le_of_ble_eq_true rfl⟩ (fun z67858 F H locs hT hz67858 => ?_)
    obtain ⟨hz67858, yz67858⟩ := hz67858
    have hv67850 := (yz67858 _ 10 (Or.inr (by decide))).trans hv67850
    have hv67852 := (yz67858 _ 3 (Or.inr (by decide))).trans hv67852
    have hv67854 := (yz67858 _ 5 (Or.inr (by decide))).trans hv67854
    have hfr : ∀ b j : Nat, (tag b ≠ 21 ∨ j ≠ 0) → (tag b ≠ 21 ∨ j ≠ 1) → (tag b ≠ 26 ∨ j ≠ 13) → fld F b j = fld Fo b j := fun b j n21_0 n21_1 n26_13 => (yz67858 b j n26_13).trans (hfr b j n21_0 n21_1 n26_13)
    exact t_iret hQ X hT (⟨rg_all _, hfr⟩) (Nat.le_of_ble_eq_true rfl) (Nat.le_of_ble_eq_true rfl) dX11_through_39
  · have w67859 := cv_eq (rfl : z67845.toInt = z67845.toInt) (by decide : (0 : Int32).toInt = 0) c67846
    refine lv_aload_n hx hb dX11_through_9 rfl (lv_at hl 0 rfl) ?_
    refine lv_iconst (v := 1) hx hb dX11_through_10 (by decide) ?_
    refine t_cVi (n := 1) (C := RX11) (T := TX11) (N := 16) (As := [.int 1]) (rest := []) X hT (kt97_X11_refuse l G tag L F hT.2.2.2 p0 1 m0 g0) m0 g0 rfl rfl qw_152 qw_153 qw_154 qw_2 qw_155 ⟨rfl, by decide +kernel, by decide +kernel, by decide +kernel⟩ ⟨Nat.le_of_ble_eq_true rfl, Nat.le_of_ble_eq_true rfl⟩ hl rfl rfl (Nat.le_of_ble_eq_true rfl) dX11_through_11 ⟨Nat.le_of_ble_eq_true rfl, Nat.le_of_ble_eq_true rfl⟩ (fun z67860 F H locs hT hz67860 => ?_)
    obtain ⟨hz67860, yz67860⟩ := hz67860
    have hfr : ∀ b j : Nat, (tag b ≠ 21 ∨ j ≠ 0) → (tag b ≠ 21 ∨ j ≠ 1) → (tag b ≠ 26 ∨ j ≠ 13) → fld F b j = fld Fo b j := fun b j n21_0 n21_1 n26_13 => (yz67860 b j n26_13).trans (hfr b j n21_0 n21_1 n26_13)
    exact t_iret hQ X hT (⟨rg_all _, hfr⟩) (Nat.le_of_ble_eq_true rfl) (Nat.le_of_ble_eq_true rfl) dX11_through_14
set_option maxHeartbeats 4000000 in
set_option maxRecDepth 100000 in
theorem kt188_X11_trouble (l : Launch) (G : KG) (tag : Nat → Nat) (L : List Nat) (F : Nat → va_E) (ho : okT G ttC tag L F) (p0 : Nat) (m0 : p0 ∈ L) (g0 : tag p0 = 26) : TMi l yX11_trouble cX11_trouble 1 (some .int) { frames := 0, cells := 0, slots := 0, locals := 0 } G ttC tag L F [.ref p0] (fun r F1 => F1 = F ∧ ((-2147483648) ≤ r.toInt ∧ r.toInt ≤ 2147483647)) := by
  refine t_bodyi (y := yX11_trouble) (cd := cX11_trouble) (mL := 1) (rt := (some .int)) (rm := { frames := 0, cells := 0, slots := 0, locals := 0 }) (av := [.ref p0]) (by decide) (Nat.le_of_ble_eq_true rfl) ho ?_
  intro p e s m args below meth c ls A Q hQ X hT hl
  have hx := X.1.1
  have hb := X.1.2.1
  have hl : lv_has ls 1 [(0, .ref p0)] := hl
  refine lv_aload_n hx hb dX11_trouble_0 rfl (lv_at hl 0 rfl) ?_
  refine t_get (C := RX11) (T := TX11) (N := 16) X hT m0 g0 rfl rfl 13 (by decide) qw_156 inlX11 rfl dX11_trouble_1 (fun v67883 hv67883 ov67883 => ?_)
  obtain ⟨z67884, rfl, rz67884⟩ := okV_i ov67883
  exact t_iret hQ X hT (⟨rfl, rg_all _⟩) (Nat.le_of_ble_eq_true rfl) (Nat.le_of_ble_eq_true rfl) dX11_trouble_4
set_option maxHeartbeats 4000000 in
set_option maxRecDepth 100000 in
theorem kt189_X2_stepBack (l : Launch) (G : KG) (tag : Nat → Nat) (L : List Nat) (Fo : Nat → va_E) (ho : okT G ttC tag L Fo) (p0 : Nat) (p1 : Nat) (m0 : p0 ∈ L) (g0 : tag p0 = 23) (m1 : p1 ∈ L) (g1 : tag p1 = 19) : TMi l yX2_stepBack cX2_stepBack 2 (some .boolean) { frames := 2, cells := 0, slots := 0, locals := 45 } G ttC tag L Fo [.ref p0, .ref p1] (fun r F1 => (0 ≤ r.toInt ∧ r.toInt ≤ 1) ∧ (∀ b j : Nat, (tag b ≠ 19 ∨ j ≠ 0) → (tag b ≠ 19 ∨ j ≠ 1) → (tag b ≠ 23 ∨ j ≠ 3) → fld F1 b j = fld Fo b j)) := by
  refine t_bodyi (y := yX2_stepBack) (cd := cX2_stepBack) (mL := 2) (rt := (some .boolean)) (rm := { frames := 2, cells := 0, slots := 0, locals := 45 }) (av := [.ref p0, .ref p1]) (by decide) (Nat.le_of_ble_eq_true rfl) ho ?_
  intro p e s m args below meth c ls A Q hQ X hT hl
  have hx := X.1.1
  have hb := X.1.2.1
  have hl : lv_has ls 2 [(0, .ref p0), (1, .ref p1)] := hl
  obtain ⟨F, hFo⟩ : ∃ F : Nat → va_E, F = Fo := ⟨_, rfl⟩
  rw [← hFo] at hT
  have hfr : ∀ b j : Nat, (tag b ≠ 19 ∨ j ≠ 0) → (tag b ≠ 19 ∨ j ≠ 1) → (tag b ≠ 23 ∨ j ≠ 3) → fld F b j = fld Fo b j := by
    rw [hFo]
    intros
    rfl
  refine lv_aload_n hx hb dX2_stepBack_0 rfl (lv_at hl 0 rfl) ?_
  refine t_get (C := RX2) (T := TX2) (N := 5) X hT m0 g0 rfl rfl 3 (by decide) qw_461 inlX2 rfl dX2_stepBack_1 (fun v68076 hv68076 ov68076 => ?_)
  obtain ⟨z68077, rfl, rz68077⟩ := okV_i ov68076
  refine lv_if_ne (tgt := 9) hx hb dX2_stepBack_4 (by decide) (fun c68078 => ?_) (fun c68078 => ?_)
  · have w68079 := cv_ne (rfl : z68077.toInt = z68077.toInt) (by decide : (0 : Int32).toInt = 0) c68078
    refine lv_aload_n hx hb dX2_stepBack_9 rfl (lv_at hl 0 rfl) ?_
    refine lv_dup hx hb dX2_stepBack_10 rfl ?_
    refine t_get (C := RX2) (T := TX2) (N := 5) X hT m0 g0 rfl rfl 3 (by decide) qw_461 inlX2 rfl dX2_stepBack_11 (fun v68080 hv68080 ov68080 => ?_)
    obtain rfl : v68080 = .int z68077 := hv68080.symm.trans hv68076
    refine lv_iconst (v := 1) hx hb dX2_stepBack_14 (by decide) ?_
    refine lv_isub hx hb dX2_stepBack_15 ?_
    refine lv_topi (fun z68081 ez68081 => ?_)
    have hz68081 : z68081.toInt = z68077.toInt - 1 := ar_sub ez68081 (rfl : z68077.toInt = z68077.toInt) (by decide : (1 : Int32).toInt = 1) (by omega) (by omega)
    have rz68081 : 0 ≤ z68081.toInt ∧ z68081.toInt ≤ 9 := by omega
    refine t_put (C := RX2) (T := TX2) (N := 5) (v := .int z68081) X hT m0 g0 rfl tyX2 tyX2_ok nmX2 rfl 3 (by decide) qw_461 inlX2 rfl (by first | rfl | decide) (by first | rfl | decide) rfl (⟨_, rfl, (by omega), (by omega)⟩) dX2_stepBack_16 (fun F H locs hT v68082 h1v68082 h2v68082 => ?_)
    have hfr : ∀ b j : Nat, (tag b ≠ 19 ∨ j ≠ 0) → (tag b ≠ 19 ∨ j ≠ 1) → (tag b ≠ 23 ∨ j ≠ 3) → fld F b j = fld Fo b j := fun b j n19_0 n19_1 n23_3 => (h1v68082 b j (fr_ne g0 n23_3)).trans (hfr b j n19_0 n19_1 n23_3)
    refine lv_aload_n hx hb dX2_stepBack_19 rfl (lv_at hl 1 rfl) ?_
    refine lv_aload_n hx hb dX2_stepBack_20 rfl (lv_at hl 0 rfl) ?_
    refine t_get (C := RX2) (T := TX2) (N := 5) X hT m0 g0 rfl rfl 0 (by decide) qw_103 inlX2 rfl dX2_stepBack_21 (fun v68083 hv68083 ov68083 => ?_)
    obtain ⟨b68084, rfl, mb68084, gb68084⟩ := okV_r ov68083
    have gb68084 : tag b68084 = 16 := tg_of gb68084
    refine lv_aload_n hx hb dX2_stepBack_24 rfl (lv_at hl 0 rfl) ?_
    refine t_get (C := RX2) (T := TX2) (N := 5) X hT m0 g0 rfl rfl 2 (by decide) qw_1431 inlX2 rfl dX2_stepBack_25 (fun v68085 hv68085 ov68085 => ?_)
    obtain ⟨z68086, rfl, rz68086⟩ := okV_i ov68085
    refine lv_aload_n hx hb dX2_stepBack_28 rfl (lv_at hl 0 rfl) ?_
    refine t_get (C := RX2) (T := TX2) (N := 5) X hT m0 g0 rfl rfl 3 (by decide) qw_461 inlX2 rfl dX2_stepBack_29 (fun v68087 hv68087 ov68087 => ?_)
    obtain rfl : v68087 = .int z68081 := hv68087.symm.trans v68082
    refine lv_iadd hx hb dX2_stepBack_32 ?_
    refine lv_topi (fun z68088 ez68088 => ?_)
    have hz68088 : z68088.toInt = z68086.toInt + z68081.toInt := ar_add ez68088 (rfl : z68086.toInt = z68086.toInt) (rfl : z68081.toInt = z68081.toInt) (by omega) (by omega)
    have rz68088 : 0 ≤ z68088.toInt ∧ z68088.toInt ≤ 18 := by omega
    refine lv_bipush (v := 10) hx hb dX2_stepBack_33 (by decide) ?_
    refine lv_irem hx hb dX2_stepBack_35 (by decide) ?_
    refine lv_topi (fun z68089 ez68089 => ?_)
    have hz68089 : z68089.toInt = z68088.toInt % 10 := ar_rem ez68089 (rfl : z68088.toInt = z68088.toInt) (by decide : (10 : Int32).toInt = 10) (by omega) (by omega)
    have rz68089 : 0 ≤ z68089.toInt ∧ z68089.toInt ≤ 9 := by omega
    refine t_ald X hT mb68084 gb68084 rfl (by omega) dX2_stepBack_36 (fun b68090 mb68090 gb68090 => ?_)
    have gb68090 : tag b68090 = 19 := tg_of gb68090
    refine t_cVv (n := 1) (C := RX7) (T := TX7) (N := 7) (As := [.ref b68090]) (rest := []) X hT (kt77_X7_copyFrom l G tag L F hT.2.2.2 p1 b68090 m1 g1 mb68090 gb68090) m1 g1 rfl rfl qw_1432 qw_450 qw_451 qw_22 qw_452 ⟨rfl, by decide +kernel, by decide +kernel, by decide +kernel⟩ ⟨Nat.le_of_ble_eq_true rfl, Nat.le_of_ble_eq_true rfl⟩ hl rfl rfl (Nat.le_of_ble_eq_true rfl) dX2_stepBack_37 ⟨Nat.le_of_ble_eq_true rfl, Nat.le_of_ble_eq_true rfl⟩ (fun F H locs hT hz68091 => ?_)
    have yz68091 := hz68091
    have v68082 := (yz68091 _ 3 (Or.inr (by decide)) (Or.inr (by decide))).trans v68082
    have hv68083 := (yz68091 _ 0 (Or.inl (by rw [g0]; decide)) (Or.inr (by decide))).trans hv68083
    have hv68085 := (yz68091 _ 2 (Or.inr (by decide)) (Or.inr (by decide))).trans hv68085
    have hfr : ∀ b j : Nat, (tag b ≠ 19 ∨ j ≠ 0) → (tag b ≠ 19 ∨ j ≠ 1) → (tag b ≠ 23 ∨ j ≠ 3) → fld F b j = fld Fo b j := fun b j n19_0 n19_1 n23_3 => (yz68091 b j n19_0 n19_1).trans (hfr b j n19_0 n19_1 n23_3)
    refine lv_iconst (v := 1) hx hb dX2_stepBack_40 (by decide) ?_
    exact t_zret hQ X hT (by decide) (⟨(by decide), hfr⟩) (Nat.le_of_ble_eq_true rfl) (Nat.le_of_ble_eq_true rfl) dX2_stepBack_41
  · have w68092 := cv_eq (rfl : z68077.toInt = z68077.toInt) (by decide : (0 : Int32).toInt = 0) c68078
    refine lv_iconst (v := 0) hx hb dX2_stepBack_7 (by decide) ?_
    exact t_zret hQ X hT (by decide) (⟨(by decide), hfr⟩) (Nat.le_of_ble_eq_true rfl) (Nat.le_of_ble_eq_true rfl) dX2_stepBack_8
set_option maxHeartbeats 4000000 in
set_option maxRecDepth 100000 in
theorem kt190_X11_undo (l : Launch) (G : KG) (tag : Nat → Nat) (L : List Nat) (Fo : Nat → va_E) (ho : okT G ttC tag L Fo) (p0 : Nat) (m0 : p0 ∈ L) (g0 : tag p0 = 26) : TMi l yX11_undo cX11_undo 1 (some .boolean) { frames := 3, cells := 0, slots := 0, locals := 66 } G ttC tag L Fo [.ref p0] (fun r F1 => (0 ≤ r.toInt ∧ r.toInt ≤ 1) ∧ (∀ b j : Nat, (tag b ≠ 19 ∨ j ≠ 0) → (tag b ≠ 19 ∨ j ≠ 1) → (tag b ≠ 23 ∨ j ≠ 3) → (tag b ≠ 26 ∨ j ≠ 13) → fld F1 b j = fld Fo b j)) := by
  refine t_bodyi (y := yX11_undo) (cd := cX11_undo) (mL := 1) (rt := (some .boolean)) (rm := { frames := 3, cells := 0, slots := 0, locals := 66 }) (av := [.ref p0]) (by decide) (Nat.le_of_ble_eq_true rfl) ho ?_
  intro p e s m args below meth c ls A Q hQ X hT hl
  have hx := X.1.1
  have hb := X.1.2.1
  have hl : lv_has ls 1 [(0, .ref p0)] := hl
  obtain ⟨F, hFo⟩ : ∃ F : Nat → va_E, F = Fo := ⟨_, rfl⟩
  rw [← hFo] at hT
  have hfr : ∀ b j : Nat, (tag b ≠ 19 ∨ j ≠ 0) → (tag b ≠ 19 ∨ j ≠ 1) → (tag b ≠ 23 ∨ j ≠ 3) → (tag b ≠ 26 ∨ j ≠ 13) → fld F b j = fld Fo b j := by
    rw [hFo]
    intros
    rfl
  refine lv_aload_n hx hb dX11_undo_0 rfl (lv_at hl 0 rfl) ?_
  refine t_get (C := RX11) (T := TX11) (N := 16) X hT m0 g0 rfl rfl 12 (by decide) qw_45 inlX11 rfl dX11_undo_1 (fun v68199 hv68199 ov68199 => ?_)
  obtain ⟨b68200, rfl, mb68200, gb68200⟩ := okV_r ov68199
  have gb68200 : tag b68200 = 23 := tg_of gb68200
  refine lv_aload_n hx hb dX11_undo_4 rfl (lv_at hl 0 rfl) ?_
  refine t_get (C := RX11) (T := TX11) (N := 16) X hT m0 g0 rfl rfl 5 (by decide) qw_23 inlX11 rfl dX11_undo_5 (fun v68201 hv68201 ov68201 => ?_)
  obtain ⟨b68202, rfl, mb68202, gb68202⟩ := okV_r ov68201
  have gb68202 : tag b68202 = 19 := tg_of gb68202
  refine t_cVi (n := 1) (C := RX2) (T := TX2) (N := 5) (As := [.ref b68202]) (rest := []) X hT (kt189_X2_stepBack l G tag L F hT.2.2.2 b68200 b68202 mb68200 gb68200 mb68202 gb68202) mb68200 gb68200 rfl rfl qw_1521 qw_1522 qw_1523 qw_44 qw_1524 ⟨rfl, by decide +kernel, by decide +kernel, by decide +kernel⟩ ⟨Nat.le_of_ble_eq_true rfl, Nat.le_of_ble_eq_true rfl⟩ hl rfl rfl (Nat.le_of_ble_eq_true rfl) dX11_undo_8 ⟨Nat.le_of_ble_eq_true rfl, Nat.le_of_ble_eq_true rfl⟩ (fun z68203 F H locs hT hz68203 => ?_)
  obtain ⟨hz68203, yz68203⟩ := hz68203
  have hv68199 := (yz68203 _ 12 (Or.inr (by decide)) (Or.inr (by decide)) (Or.inr (by decide))).trans hv68199
  have hv68201 := (yz68203 _ 5 (Or.inr (by decide)) (Or.inr (by decide)) (Or.inr (by decide))).trans hv68201
  have hfr : ∀ b j : Nat, (tag b ≠ 19 ∨ j ≠ 0) → (tag b ≠ 19 ∨ j ≠ 1) → (tag b ≠ 23 ∨ j ≠ 3) → (tag b ≠ 26 ∨ j ≠ 13) → fld F b j = fld Fo b j := fun b j n19_0 n19_1 n23_3 n26_13 => (yz68203 b j n19_0 n19_1 n23_3).trans (hfr b j n19_0 n19_1 n23_3 n26_13)
  refine lv_if_eq (tgt := 21) hx hb dX11_undo_11 (by decide) (fun c68204 => ?_) (fun c68204 => ?_)
  · have w68205 := cv_eq (rfl : z68203.toInt = z68203.toInt) (by decide : (0 : Int32).toInt = 0) c68204
    refine lv_aload_n hx hb dX11_undo_21 rfl (lv_at hl 0 rfl) ?_
    refine lv_bipush (v := 6) hx hb dX11_undo_22 (by decide) ?_
    refine t_cVi (n := 1) (C := RX11) (T := TX11) (N := 16) (As := [.int 6]) (rest := []) X hT (kt90_X11_no l G tag L F hT.2.2.2 p0 6 m0 g0) m0 g0 rfl rfl qw_1454 qw_1455 qw_1456 qw_2 qw_1457 ⟨rfl, by decide +kernel, by decide +kernel, by decide +kernel⟩ ⟨Nat.le_of_ble_eq_true rfl, Nat.le_of_ble_eq_true rfl⟩ hl rfl rfl (Nat.le_of_ble_eq_true rfl) dX11_undo_24 ⟨Nat.le_of_ble_eq_true rfl, Nat.le_of_ble_eq_true rfl⟩ (fun z68206 F H locs hT hz68206 => ?_)
    obtain ⟨hz68206, yz68206⟩ := hz68206
    have hv68199 := (yz68206 _ 12 (Or.inr (by decide))).trans hv68199
    have hv68201 := (yz68206 _ 5 (Or.inr (by decide))).trans hv68201
    have hfr : ∀ b j : Nat, (tag b ≠ 19 ∨ j ≠ 0) → (tag b ≠ 19 ∨ j ≠ 1) → (tag b ≠ 23 ∨ j ≠ 3) → (tag b ≠ 26 ∨ j ≠ 13) → fld F b j = fld Fo b j := fun b j n19_0 n19_1 n23_3 n26_13 => (yz68206 b j n26_13).trans (hfr b j n19_0 n19_1 n23_3 n26_13)
    exact t_zret hQ X hT (nar_z (by omega)) (⟨(by omega), hfr⟩) (Nat.le_of_ble_eq_true rfl) (Nat.le_of_ble_eq_true rfl) dX11_undo_27
  · have w68207 := cv_ne (rfl : z68203.toInt = z68203.toInt) (by decide : (0 : Int32).toInt = 0) c68204
    refine lv_aload_n hx hb dX11_undo_14 rfl (lv_at hl 0 rfl) ?_
    refine t_cVi (n := 0) (C := RX11) (T := TX11) (N := 16) (As := []) (rest := []) X hT (kt91_X11_yes l G tag L F hT.2.2.2 p0 m0 g0) m0 g0 rfl rfl qw_1460 qw_1461 qw_1462 qw_2 qw_1463 ⟨rfl, by decide +kernel, by decide +kernel, by decide +kernel⟩ ⟨Nat.le_of_ble_eq_true rfl, Nat.le_of_ble_eq_true rfl⟩ hl rfl rfl (Nat.le_of_ble_eq_true rfl) dX11_undo_15 ⟨Nat.le_of_ble_eq_true rfl, Nat.le_of_ble_eq_true rfl⟩ (fun z68208 F H locs hT hz68208 => ?_)
    obtain ⟨hz68208, yz68208⟩ := hz68208
    have hv68199 := (yz68208 _ 12 (Or.inr (by decide))).trans hv68199
    have hv68201 := (yz68208 _ 5 (Or.inr (by decide))).trans hv68201
    have hfr : ∀ b j : Nat, (tag b ≠ 19 ∨ j ≠ 0) → (tag b ≠ 19 ∨ j ≠ 1) → (tag b ≠ 23 ∨ j ≠ 3) → (tag b ≠ 26 ∨ j ≠ 13) → fld F b j = fld Fo b j := fun b j n19_0 n19_1 n23_3 n26_13 => (yz68208 b j n26_13).trans (hfr b j n19_0 n19_1 n23_3 n26_13)
    refine lv_goto (tgt := 27) hx hb dX11_undo_18 (by decide) ?_
    exact t_zret hQ X hT (nar_z (by omega)) (⟨(by omega), hfr⟩) (Nat.le_of_ble_eq_true rfl) (Nat.le_of_ble_eq_true rfl) dX11_undo_27
set_option maxHeartbeats 4000000 in
set_option maxRecDepth 100000 in
theorem kt191_X11_warm (l : Launch) (G : KG) (tag : Nat → Nat) (L : List Nat) (Fo : Nat → va_E) (ho : okT G ttC tag L Fo) (p0 : Nat) (p1 : Int32) (p2 : Int32) (m0 : p0 ∈ L) (g0 : tag p0 = 26) : TMi l yX11_warm cX11_warm 3 (some .int) { frames := 3, cells := 0, slots := 0, locals := 70 } G ttC tag L Fo [.ref p0, .int p1, .int p2] (fun r F1 => ((-2147483648) ≤ r.toInt ∧ r.toInt ≤ 2147483647) ∧ (∀ b j : Nat, (tag b ≠ 26 ∨ j ≠ 13) → fld F1 b j = fld Fo b j)) := by
  refine t_bodyi (y := yX11_warm) (cd := cX11_warm) (mL := 3) (rt := (some .int)) (rm := { frames := 3, cells := 0, slots := 0, locals := 70 }) (av := [.ref p0, .int p1, .int p2]) (by decide) (Nat.le_of_ble_eq_true rfl) ho ?_
  intro p e s m args below meth c ls A Q hQ X hT hl
  have hx := X.1.1
  have hb := X.1.2.1
  have hl : lv_has ls 3 [(0, .ref p0), (1, .int p1), (2, .int p2)] := hl
  have rp1 := rg_all p1
  have rp2 := rg_all p2
  obtain ⟨F, hFo⟩ : ∃ F : Nat → va_E, F = Fo := ⟨_, rfl⟩
  rw [← hFo] at hT
  have hfr : ∀ b j : Nat, (tag b ≠ 26 ∨ j ≠ 13) → fld F b j = fld Fo b j := by
    rw [hFo]
    intros
    rfl
  refine lv_aload_n hx hb dX11_warm_0 rfl (lv_at hl 0 rfl) ?_
  refine lv_iload_n hx hb dX11_warm_1 rfl (lv_at hl 1 rfl) ?_
  refine lv_iload_n hx hb dX11_warm_2 rfl (lv_at hl 2 rfl) ?_
  refine t_cVi (n := 2) (C := RX11) (T := TX11) (N := 16) (As := [.int p1, .int p2]) (rest := []) X hT (kt94_X11_isRoom l G tag L F hT.2.2.2 p0 p1 p2 m0 g0) m0 g0 rfl rfl qw_827 qw_828 qw_829 qw_2 qw_830 ⟨rfl, by decide +kernel, by decide +kernel, by decide +kernel⟩ ⟨Nat.le_of_ble_eq_true rfl, Nat.le_of_ble_eq_true rfl⟩ hl rfl rfl (Nat.le_of_ble_eq_true rfl) dX11_warm_3 ⟨Nat.le_of_ble_eq_true rfl, Nat.le_of_ble_eq_true rfl⟩ (fun z68308 F9 H locs hT hz68308 => ?_)
  obtain ⟨fz68308, hz68308⟩ := hz68308
  rw [fz68308] at hT
  obtain ⟨hz68308, iz68308⟩ := hz68308
  refine lv_if_ne (tgt := 15) hx hb dX11_warm_6 (by decide) (fun c68309 => ?_) (fun c68309 => ?_)
  · have w68310 := cv_ne (rfl : z68308.toInt = z68308.toInt) (by decide : (0 : Int32).toInt = 0) c68309
    have w68311 := (fun h => (iz68308 h).1) (by omega)
    have w68312 := (fun h => (iz68308 h).2) (by omega)
    refine lv_aload_n hx hb dX11_warm_15 rfl (lv_at hl 0 rfl) ?_
    refine lv_aload_n hx hb dX11_warm_16 rfl (lv_at hl 0 rfl) ?_
    refine lv_iload_n hx hb dX11_warm_17 rfl (lv_at hl 1 rfl) ?_
    refine lv_iload_n hx hb dX11_warm_18 rfl (lv_at hl 2 rfl) ?_
    refine t_cVi (n := 2) (C := RX11) (T := TX11) (N := 16) (As := [.int p1, .int p2]) (rest := [.ref p0]) X hT (kt122_X11_warmth l G tag L F hT.2.2.2 p0 p1 p2 m0 g0 (by omega)) m0 g0 rfl rfl qw_844 qw_845 qw_846 qw_2 qw_847 ⟨rfl, by decide +kernel, by decide +kernel, by decide +kernel⟩ ⟨Nat.le_of_ble_eq_true rfl, Nat.le_of_ble_eq_true rfl⟩ hl rfl rfl (Nat.le_of_ble_eq_true rfl) dX11_warm_19 ⟨Nat.le_of_ble_eq_true rfl, Nat.le_of_ble_eq_true rfl⟩ (fun z68313 F9 H locs hT hz68313 => ?_)
    obtain ⟨fz68313, hz68313⟩ := hz68313
    rw [fz68313] at hT
    refine t_cVi (n := 1) (C := RX11) (T := TX11) (N := 16) (As := [.int z68313]) (rest := []) X hT (kt96_X11_answer l G tag L F hT.2.2.2 p0 z68313 m0 g0) m0 g0 rfl rfl qw_463 qw_464 qw_465 qw_2 qw_466 ⟨rfl, by decide +kernel, by decide +kernel, by decide +kernel⟩ ⟨Nat.le_of_ble_eq_true rfl, Nat.le_of_ble_eq_true rfl⟩ hl rfl rfl (Nat.le_of_ble_eq_true rfl) dX11_warm_22 ⟨Nat.le_of_ble_eq_true rfl, Nat.le_of_ble_eq_true rfl⟩ (fun z68314 F H locs hT hz68314 => ?_)
    obtain ⟨hz68314, yz68314⟩ := hz68314
    have hfr : ∀ b j : Nat, (tag b ≠ 26 ∨ j ≠ 13) → fld F b j = fld Fo b j := fun b j n26_13 => (yz68314 b j n26_13).trans (hfr b j n26_13)
    exact t_iret hQ X hT (⟨rg_all _, hfr⟩) (Nat.le_of_ble_eq_true rfl) (Nat.le_of_ble_eq_true rfl) dX11_warm_25
  · have w68315 := cv_eq (rfl : z68308.toInt = z68308.toInt) (by decide : (0 : Int32).toInt = 0) c68309
    refine lv_aload_n hx hb dX11_warm_9 rfl (lv_at hl 0 rfl) ?_
    refine lv_iconst (v := 1) hx hb dX11_warm_10 (by decide) ?_
    refine t_cVi (n := 1) (C := RX11) (T := TX11) (N := 16) (As := [.int 1]) (rest := []) X hT (kt97_X11_refuse l G tag L F hT.2.2.2 p0 1 m0 g0) m0 g0 rfl rfl qw_152 qw_153 qw_154 qw_2 qw_155 ⟨rfl, by decide +kernel, by decide +kernel, by decide +kernel⟩ ⟨Nat.le_of_ble_eq_true rfl, Nat.le_of_ble_eq_true rfl⟩ hl rfl rfl (Nat.le_of_ble_eq_true rfl) dX11_warm_11 ⟨Nat.le_of_ble_eq_true rfl, Nat.le_of_ble_eq_true rfl⟩ (fun z68316 F H locs hT hz68316 => ?_)
    obtain ⟨hz68316, yz68316⟩ := hz68316
    have hfr : ∀ b j : Nat, (tag b ≠ 26 ∨ j ≠ 13) → fld F b j = fld Fo b j := fun b j n26_13 => (yz68316 b j n26_13).trans (hfr b j n26_13)
    exact t_iret hQ X hT (⟨rg_all _, hfr⟩) (Nat.le_of_ble_eq_true rfl) (Nat.le_of_ble_eq_true rfl) dX11_warm_14
set_option maxHeartbeats 4000000 in
set_option maxRecDepth 100000 in
theorem kt192_X11_warmth (l : Launch) (G : KG) (tag : Nat → Nat) (L : List Nat) (F : Nat → va_E) (ho : okT G ttC tag L F) (p0 : Nat) (p1 : Int32) (p2 : Int32) (m0 : p0 ∈ L) (g0 : tag p0 = 26) (h1 : 0 ≤ p1.toInt ∧ p1.toInt ≤ 3) : TMi l yX11_warmth cX11_warmth 5 (some .int) { frames := 2, cells := 0, slots := 0, locals := 46 } G ttC tag L F [.ref p0, .int p1, .int p2] (fun r F1 => F1 = F ∧ ((-2147483648) ≤ r.toInt ∧ r.toInt ≤ 2147483647)) := by
  refine t_bodyi (y := yX11_warmth) (cd := cX11_warmth) (mL := 5) (rt := (some .int)) (rm := { frames := 2, cells := 0, slots := 0, locals := 46 }) (av := [.ref p0, .int p1, .int p2]) (by decide) (Nat.le_of_ble_eq_true rfl) ho ?_
  intro p e s m args below meth c ls A Q hQ X hT hl
  have hx := X.1.1
  have hb := X.1.2.1
  have hl : lv_has ls 5 [(0, .ref p0), (1, .int p1), (2, .int p2)] := hl
  have rp2 := rg_all p2
  have K9 : ∀ (n : Nat) (z68612 : Int32) (z68613 : Int32) (H : Heap) (locs : List Loc) (ls : Array Slot), (7 - z68613.toInt < (n : Int)) → (1 ≤ z68613.toInt ∧ z68613.toInt ≤ 2147483647) → TH G ttC A s tag L F H locs → lv_has ls 5 [(0, .ref p0), (1, .int p1), (2, .int p2), (3, .int z68612), (4, .int z68613)] → W p l e { frames := 2, cells := 0, slots := 0, locals := 46 } s m args below meth c H locs 0 0 Q (F0 m 9 ls []) := by
    intro n
    induction n with
    | zero =>
      intro z68612 z68613 H locs ls hn rz68613 hT hl
      have rz68612 := rg_all z68612
      refine lv_iload hx hb dX11_warmth_9 (lv_at hl 4 rfl) ?_
      refine lv_aload_n hx hb dX11_warmth_11 rfl (lv_at hl 0 rfl) ?_
      refine t_get (C := RX11) (T := TX11) (N := 16) X hT m0 g0 rfl rfl 5 (by decide) qw_23 inlX11 rfl dX11_warmth_12 (fun v68614 hv68614 ov68614 => ?_)
      obtain ⟨b68615, rfl, mb68615, gb68615⟩ := okV_r ov68614
      have gb68615 : tag b68615 = 19 := tg_of gb68615
      refine t_get (C := RX7) (T := TX7) (N := 7) X hT mb68615 gb68615 rfl rfl 2 (by decide) qw_766 inlX7 rfl dX11_warmth_15 (fun v68616 hv68616 ov68616 => ?_)
      obtain ⟨b68617, rfl, mb68617, gb68617⟩ := okV_r ov68616
      have gb68617 : tag b68617 = 8 := tg_of gb68617
      refine lv_iload_n hx hb dX11_warmth_18 rfl (lv_at hl 1 rfl) ?_
      refine t_ild X hT mb68617 gb68617 rfl (by omega) dX11_warmth_19 (fun z68618 vz68618 rz68618 => ?_)
      have rz68618 : 0 ≤ z68618.toInt ∧ z68618.toInt ≤ 6 := rz68618
      refine lv_icmp_gt (tgt := 64) hx hb dX11_warmth_20 (by decide) (fun c68619 => ?_) (fun c68619 => ?_)
      · have w68620 := cv_lt (rfl : z68618.toInt = z68618.toInt) (rfl : z68613.toInt = z68613.toInt) c68619
        refine lv_iload_n hx hb dX11_warmth_64 rfl (lv_at hl 3 rfl) ?_
        exact t_iret hQ X hT (⟨rfl, rg_all _⟩) (Nat.le_of_ble_eq_true rfl) (Nat.le_of_ble_eq_true rfl) dX11_warmth_65
      · have w68621 := cv_nlt (rfl : z68618.toInt = z68618.toInt) (rfl : z68613.toInt = z68613.toInt) c68619
        exfalso
        omega
    | succ n ih9 =>
      intro z68612 z68613 H locs ls hn rz68613 hT hl
      have rz68612 := rg_all z68612
      have K58 : ∀ (z68622 : Int32) (H : Heap) (locs : List Loc) (ls : Array Slot), (1 ≤ z68613.toInt ∧ z68613.toInt ≤ 6) → TH G ttC A s tag L F H locs → lv_has ls 5 [(0, .ref p0), (1, .int p1), (2, .int p2), (3, .int z68622), (4, .int z68613)] → W p l e { frames := 2, cells := 0, slots := 0, locals := 46 } s m args below meth c H locs 0 0 Q (F0 m 58 ls []) := by
        intro z68622 H locs ls r9s68623 hT hl
        have rz68622 := rg_all z68622
        obtain ⟨z68624, ez68624⟩ : ∃ y : Int32, y = z68613 + 1 := ⟨_, rfl⟩
        have hz68624 : z68624.toInt = z68613.toInt + 1 := ar_add ez68624 rfl (by decide : (1 : Int32).toInt = 1) (by omega) (by omega)
        refine lv_iinc (v := z68624) (lv' := [(4, .int z68624), (0, .ref p0), (1, .int p1), (2, .int p2), (3, .int z68622)]) hx hb dX11_warmth_58 hl (k := 4) rfl (by rw [ez68624]; rfl) (by decide) rfl (fun ls hl => ?_)
        refine lv_goto (tgt := 9) hx hb dX11_warmth_61 (by decide) ?_
        exact ih9 z68622 z68624 _ _ _ (by omega) (by omega) hT  (lv_sub hl [1, 2, 3, 4, 0] rfl)
      refine lv_iload hx hb dX11_warmth_9 (lv_at hl 4 rfl) ?_
      refine lv_aload_n hx hb dX11_warmth_11 rfl (lv_at hl 0 rfl) ?_
      refine t_get (C := RX11) (T := TX11) (N := 16) X hT m0 g0 rfl rfl 5 (by decide) qw_23 inlX11 rfl dX11_warmth_12 (fun v68625 hv68625 ov68625 => ?_)
      obtain ⟨b68626, rfl, mb68626, gb68626⟩ := okV_r ov68625
      have gb68626 : tag b68626 = 19 := tg_of gb68626
      refine t_get (C := RX7) (T := TX7) (N := 7) X hT mb68626 gb68626 rfl rfl 2 (by decide) qw_766 inlX7 rfl dX11_warmth_15 (fun v68627 hv68627 ov68627 => ?_)
      obtain ⟨b68628, rfl, mb68628, gb68628⟩ := okV_r ov68627
      have gb68628 : tag b68628 = 8 := tg_of gb68628
      refine lv_iload_n hx hb dX11_warmth_18 rfl (lv_at hl 1 rfl) ?_
      refine t_ild X hT mb68628 gb68628 rfl (by omega) dX11_warmth_19 (fun z68629 vz68629 rz68629 => ?_)
      have rz68629 : 0 ≤ z68629.toInt ∧ z68629.toInt ≤ 6 := rz68629
      refine lv_icmp_gt (tgt := 64) hx hb dX11_warmth_20 (by decide) (fun c68630 => ?_) (fun c68630 => ?_)
      · have w68631 := cv_lt (rfl : z68629.toInt = z68629.toInt) (rfl : z68613.toInt = z68613.toInt) c68630
        refine lv_iload_n hx hb dX11_warmth_64 rfl (lv_at hl 3 rfl) ?_
        exact t_iret hQ X hT (⟨rfl, rg_all _⟩) (Nat.le_of_ble_eq_true rfl) (Nat.le_of_ble_eq_true rfl) dX11_warmth_65
      · have w68632 := cv_nlt (rfl : z68629.toInt = z68629.toInt) (rfl : z68613.toInt = z68613.toInt) c68630
        refine lv_aload_n hx hb dX11_warmth_23 rfl (lv_at hl 0 rfl) ?_
        refine t_get (C := RX11) (T := TX11) (N := 16) X hT m0 g0 rfl rfl 5 (by decide) qw_23 inlX11 rfl dX11_warmth_24 (fun v68633 hv68633 ov68633 => ?_)
        obtain rfl : v68633 = .ref b68626 := hv68633.symm.trans hv68625
        refine lv_iload_n hx hb dX11_warmth_27 rfl (lv_at hl 1 rfl) ?_
        refine lv_iload hx hb dX11_warmth_28 (lv_at hl 4 rfl) ?_
        refine t_cVi (n := 2) (C := RX7) (T := TX7) (N := 7) (As := [.int p1, .int z68613]) (rest := []) X hT (kt21_X7_stands l G tag L F hT.2.2.2 b68626 p1 z68613 mb68626 gb68626) mb68626 gb68626 rfl rfl qw_852 qw_853 qw_854 qw_22 qw_855 ⟨rfl, by decide +kernel, by decide +kernel, by decide +kernel⟩ ⟨Nat.le_of_ble_eq_true rfl, Nat.le_of_ble_eq_true rfl⟩ hl rfl rfl (Nat.le_of_ble_eq_true rfl) dX11_warmth_30 ⟨Nat.le_of_ble_eq_true rfl, Nat.le_of_ble_eq_true rfl⟩ (fun z68634 F9 H locs hT hz68634 => ?_)
        obtain ⟨fz68634, hz68634⟩ := hz68634
        rw [fz68634] at hT
        refine lv_if_eq (tgt := 58) hx hb dX11_warmth_33 (by decide) (fun c68635 => ?_) (fun c68635 => ?_)
        · have w68636 := cv_eq (rfl : z68634.toInt = z68634.toInt) (by decide : (0 : Int32).toInt = 0) c68635
          exact K58 z68612 _ _ _ (by omega) hT  (lv_sub hl [0, 1, 2, 3, 4] rfl)
        · have w68637 := cv_ne (rfl : z68634.toInt = z68634.toInt) (by decide : (0 : Int32).toInt = 0) c68635
          refine lv_iload_n hx hb dX11_warmth_36 rfl (lv_at hl 3 rfl) ?_
          refine lv_aload_n hx hb dX11_warmth_37 rfl (lv_at hl 0 rfl) ?_
          refine t_get (C := RX11) (T := TX11) (N := 16) X hT m0 g0 rfl rfl 3 (by decide) qw_18 inlX11 rfl dX11_warmth_38 (fun v68638 hv68638 ov68638 => ?_)
          obtain ⟨b68639, rfl, mb68639, gb68639⟩ := okV_r ov68638
          have gb68639 : tag b68639 = 18 := tg_of gb68639
          refine lv_aload_n hx hb dX11_warmth_41 rfl (lv_at hl 0 rfl) ?_
          refine t_get (C := RX11) (T := TX11) (N := 16) X hT m0 g0 rfl rfl 5 (by decide) qw_23 inlX11 rfl dX11_warmth_42 (fun v68640 hv68640 ov68640 => ?_)
          obtain rfl : v68640 = .ref b68626 := hv68640.symm.trans hv68625
          refine lv_iload_n hx hb dX11_warmth_45 rfl (lv_at hl 1 rfl) ?_
          refine lv_iload hx hb dX11_warmth_46 (lv_at hl 4 rfl) ?_
          refine lv_iconst (v := 0) hx hb dX11_warmth_48 (by decide) ?_
          refine t_cVi (n := 3) (C := RX7) (T := TX7) (N := 7) (As := [.int p1, .int z68613, .int 0]) (rest := [.ref b68639, .int z68612]) X hT (kt19_X7_partOf l G tag L F hT.2.2.2 b68626 p1 z68613 0 mb68626 gb68626) mb68626 gb68626 rfl rfl qw_831 qw_778 qw_779 qw_22 qw_780 ⟨rfl, by decide +kernel, by decide +kernel, by decide +kernel⟩ ⟨Nat.le_of_ble_eq_true rfl, Nat.le_of_ble_eq_true rfl⟩ hl rfl rfl (Nat.le_of_ble_eq_true rfl) dX11_warmth_49 ⟨Nat.le_of_ble_eq_true rfl, Nat.le_of_ble_eq_true rfl⟩ (fun z68641 F9 H locs hT hz68641 => ?_)
          obtain ⟨fz68641, hz68641⟩ := hz68641
          rw [fz68641] at hT
          refine lv_iconst (v := 2) hx hb dX11_warmth_52 (by decide) ?_
          refine t_cVi (n := 2) (C := RX1) (T := TX1) (N := 20) (As := [.int z68641, .int 2]) (rest := [.int z68612]) X hT (kt48_X1_stonePart l G tag L F hT.2.2.2 b68639 z68641 2 mb68639 gb68639) mb68639 gb68639 rfl rfl qw_857 qw_858 qw_859 qw_17 qw_860 ⟨rfl, by decide +kernel, by decide +kernel, by decide +kernel⟩ ⟨Nat.le_of_ble_eq_true rfl, Nat.le_of_ble_eq_true rfl⟩ hl rfl rfl (Nat.le_of_ble_eq_true rfl) dX11_warmth_53 ⟨Nat.le_of_ble_eq_true rfl, Nat.le_of_ble_eq_true rfl⟩ (fun z68642 F9 H locs hT hz68642 => ?_)
          obtain ⟨fz68642, hz68642⟩ := hz68642
          rw [fz68642] at hT
          refine lv_iadd hx hb dX11_warmth_56 ?_
          refine lv_topi (fun z68643 ez68643 => ?_)
          have rz68643 := rg_all z68643
          refine lv_istore_n (lv' := [(3, .int z68643), (0, .ref p0), (1, .int p1), (2, .int p2), (4, .int z68613)]) hx hb dX11_warmth_57 rfl hl (by decide) rfl (fun ls hl => ?_)
          exact K58 z68643 _ _ _ (by omega) hT  (lv_sub hl [1, 2, 3, 0, 4] rfl)
  refine lv_iconst (v := 0) hx hb dX11_warmth_0 (by decide) ?_
  refine lv_istore_n (lv' := [(3, .int 0), (0, .ref p0), (1, .int p1), (2, .int p2)]) hx hb dX11_warmth_1 rfl hl (by decide) rfl (fun ls hl => ?_)
  refine lv_iload_n hx hb dX11_warmth_2 rfl (lv_at hl 3 rfl) ?_
  refine lv_iconst (v := 1) hx hb dX11_warmth_3 (by decide) ?_
  refine t_mmax X hl qw_848 qw_849 qw_850 qw_851 (Nat.le_of_ble_eq_true rfl) (Nat.le_of_ble_eq_true rfl) (Nat.le_of_ble_eq_true rfl) (Nat.le_of_ble_eq_true rfl) dX11_warmth_4 (fun z68644 ez68644 => ?_)
  have hz68644 := mmax_e ez68644 (rfl : p2.toInt = p2.toInt) (by decide : (1 : Int32).toInt = 1)
  refine lv_istore (lv' := [(4, .int z68644), (3, .int 0), (0, .ref p0), (1, .int p1), (2, .int p2)]) hx hb dX11_warmth_7 hl (by decide) rfl (fun ls hl => ?_)
  have kk68645 : (0 : Int32).toInt = 0 := by decide
  exact K9 7 0 z68644 _ _ _ (by omega) (by omega) hT  (lv_sub hl [2, 3, 4, 1, 0] rfl)
set_option maxHeartbeats 4000000 in
set_option maxRecDepth 100000 in
theorem kt193_X7_wayTo (l : Launch) (G : KG) (tag : Nat → Nat) (L : List Nat) (F : Nat → va_E) (ho : okT G ttC tag L F) (p0 : Nat) (p1 : Int32) (p2 : Int32) (m0 : p0 ∈ L) (g0 : tag p0 = 19) (h1 : 0 ≤ p1.toInt ∧ p1.toInt ≤ 3) : TMi l yX7_wayTo cX7_wayTo 6 (some .int) { frames := 3, cells := 0, slots := 0, locals := 68 } G ttC tag L F [.ref p0, .int p1, .int p2] (fun r F1 => F1 = F ∧ ((-2147483648) ≤ r.toInt ∧ r.toInt ≤ 2147483647)) := by
  refine t_bodyi (y := yX7_wayTo) (cd := cX7_wayTo) (mL := 6) (rt := (some .int)) (rm := { frames := 3, cells := 0, slots := 0, locals := 68 }) (av := [.ref p0, .int p1, .int p2]) (by decide) (Nat.le_of_ble_eq_true rfl) ho ?_
  intro p e s m args below meth c ls A Q hQ X hT hl
  have hx := X.1.1
  have hb := X.1.2.1
  have hl : lv_has ls 6 [(0, .ref p0), (1, .int p1), (2, .int p2)] := hl
  have rp2 := rg_all p2
  have K42 : ∀ (n : Nat) (z69074 : Int32) (z69075 : Int32) (z69076 : Int32) (H : Heap) (locs : List Loc) (ls : Array Slot), (z69076.toInt - 0 < (n : Int)) → (1 ≤ z69074.toInt ∧ z69074.toInt ≤ 2147483647) → (0 ≤ z69076.toInt ∧ z69076.toInt ≤ 6) → TH G ttC A s tag L F H locs → lv_has ls 6 [(0, .ref p0), (1, .int p1), (2, .int p2), (3, .int z69074), (4, .int z69075), (5, .int z69076)] → W p l e { frames := 3, cells := 0, slots := 0, locals := 68 } s m args below meth c H locs 0 0 Q (F0 m 42 ls []) := by
    intro n
    induction n with
    | zero =>
      intro z69074 z69075 z69076 H locs ls hn rz69074 rz69076 hT hl
      have rz69075 := rg_all z69075
      exfalso
      omega
    | succ n ih42 =>
      intro z69074 z69075 z69076 H locs ls hn rz69074 rz69076 hT hl
      have rz69075 := rg_all z69075
      have K82 : ∀ (z69078 : Int32) (H : Heap) (locs : List Loc) (ls : Array Slot), (1 ≤ z69074.toInt ∧ z69074.toInt ≤ 6) → (1 ≤ z69076.toInt ∧ z69076.toInt ≤ 6) → TH G ttC A s tag L F H locs → lv_has ls 6 [(0, .ref p0), (1, .int p1), (2, .int p2), (3, .int z69074), (4, .int z69078), (5, .int z69076)] → W p l e { frames := 3, cells := 0, slots := 0, locals := 68 } s m args below meth c H locs 0 0 Q (F0 m 82 ls []) := by
        intro z69078 H locs ls r9s69077 r9s69079 hT hl
        have rz69078 := rg_all z69078
        obtain ⟨z69080, ez69080⟩ : ∃ y : Int32, y = z69076 + (-1) := ⟨_, rfl⟩
        have hz69080 : z69080.toInt = z69076.toInt + (-1) := ar_add ez69080 rfl (by decide : ((-1) : Int32).toInt = (-1)) (by omega) (by omega)
        refine lv_iinc (v := z69080) (lv' := [(5, .int z69080), (0, .ref p0), (1, .int p1), (2, .int p2), (3, .int z69074), (4, .int z69078)]) hx hb dX7_wayTo_82 hl (k := 5) rfl (by rw [ez69080]; rfl) (by decide) rfl (fun ls hl => ?_)
        refine lv_goto (tgt := 42) hx hb dX7_wayTo_85 (by decide) ?_
        exact ih42 z69074 z69078 z69080 _ _ _ (by omega) (by omega) (by omega) hT  (lv_sub hl [1, 2, 3, 4, 5, 0] rfl)
      refine lv_iload hx hb dX7_wayTo_42 (lv_at hl 5 rfl) ?_
      refine lv_iload_n hx hb dX7_wayTo_44 rfl (lv_at hl 3 rfl) ?_
      refine lv_icmp_lt (tgt := 88) hx hb dX7_wayTo_45 (by decide) (fun c69081 => ?_) (fun c69081 => ?_)
      · have w69082 := cv_lt (rfl : z69076.toInt = z69076.toInt) (rfl : z69074.toInt = z69074.toInt) c69081
        refine lv_iload hx hb dX7_wayTo_88 (lv_at hl 4 rfl) ?_
        exact t_iret hQ X hT (⟨rfl, rg_all _⟩) (Nat.le_of_ble_eq_true rfl) (Nat.le_of_ble_eq_true rfl) dX7_wayTo_90
      · have w69083 := cv_nlt (rfl : z69076.toInt = z69076.toInt) (rfl : z69074.toInt = z69074.toInt) c69081
        refine lv_aload_n hx hb dX7_wayTo_48 rfl (lv_at hl 0 rfl) ?_
        refine lv_iload_n hx hb dX7_wayTo_49 rfl (lv_at hl 1 rfl) ?_
        refine lv_iload hx hb dX7_wayTo_50 (lv_at hl 5 rfl) ?_
        refine t_cVi (n := 2) (C := RX7) (T := TX7) (N := 7) (As := [.int p1, .int z69076]) (rest := []) X hT (kt33_X7_isOpen l G tag L F hT.2.2.2 p0 p1 z69076 m0 g0) m0 g0 rfl rfl qw_983 qw_984 qw_985 qw_22 qw_986 ⟨rfl, by decide +kernel, by decide +kernel, by decide +kernel⟩ ⟨Nat.le_of_ble_eq_true rfl, Nat.le_of_ble_eq_true rfl⟩ hl rfl rfl (Nat.le_of_ble_eq_true rfl) dX7_wayTo_52 ⟨Nat.le_of_ble_eq_true rfl, Nat.le_of_ble_eq_true rfl⟩ (fun z69084 F9 H locs hT hz69084 => ?_)
        obtain ⟨fz69084, hz69084⟩ := hz69084
        rw [fz69084] at hT
        refine lv_if_ne (tgt := 61) hx hb dX7_wayTo_55 (by decide) (fun c69085 => ?_) (fun c69085 => ?_)
        · have w69086 := cv_ne (rfl : z69084.toInt = z69084.toInt) (by decide : (0 : Int32).toInt = 0) c69085
          obtain ⟨z69087, ez69087⟩ : ∃ y : Int32, y = z69075 + 1 := ⟨_, rfl⟩
          have rz69087 := rg_all z69087
          refine lv_iinc (v := z69087) (lv' := [(4, .int z69087), (0, .ref p0), (1, .int p1), (2, .int p2), (3, .int z69074), (5, .int z69076)]) hx hb dX7_wayTo_61 hl (k := 4) rfl (by rw [ez69087]; rfl) (by decide) rfl (fun ls hl => ?_)
          refine lv_iload hx hb dX7_wayTo_64 (lv_at hl 5 rfl) ?_
          refine lv_iload_n hx hb dX7_wayTo_66 rfl (lv_at hl 4 rfl) ?_
          refine lv_icmp_le (tgt := 82) hx hb dX7_wayTo_67 (by decide) (fun c69088 => ?_) (fun c69088 => ?_)
          · have w69089 := cv_le (rfl : z69076.toInt = z69076.toInt) (rfl : z69074.toInt = z69074.toInt) c69088
            exact K82 z69087 _ _ _ (by omega) (by omega) hT  (lv_sub hl [1, 2, 3, 4, 0, 5] rfl)
          · have w69090 := cv_nle (rfl : z69076.toInt = z69076.toInt) (rfl : z69074.toInt = z69074.toInt) c69088
            refine lv_iload hx hb dX7_wayTo_70 (lv_at hl 0 rfl) ?_
            refine lv_aload_n hx hb dX7_wayTo_72 rfl (lv_at hl 1 rfl) ?_
            refine lv_iload_n hx hb dX7_wayTo_73 rfl (lv_at hl 2 rfl) ?_
            refine lv_iload hx hb dX7_wayTo_74 (lv_at hl 5 rfl) ?_
            refine t_cVi (n := 2) (C := RX7) (T := TX7) (N := 7) (As := [.int p1, .int z69076]) (rest := [.int z69087]) X hT (kt34_X7_roundIn l G tag L F hT.2.2.2 p0 p1 z69076 m0 g0) m0 g0 rfl rfl qw_988 qw_989 qw_990 qw_22 qw_991 ⟨rfl, by decide +kernel, by decide +kernel, by decide +kernel⟩ ⟨Nat.le_of_ble_eq_true rfl, Nat.le_of_ble_eq_true rfl⟩ hl rfl rfl (Nat.le_of_ble_eq_true rfl) dX7_wayTo_76 ⟨Nat.le_of_ble_eq_true rfl, Nat.le_of_ble_eq_true rfl⟩ (fun z69091 F9 H locs hT hz69091 => ?_)
            obtain ⟨fz69091, hz69091⟩ := hz69091
            rw [fz69091] at hT
            refine lv_iadd hx hb dX7_wayTo_79 ?_
            refine lv_topi (fun z69092 ez69092 => ?_)
            have rz69092 := rg_all z69092
            refine lv_istore (lv' := [(4, .int z69092), (0, .ref p0), (1, .int p1), (2, .int p2), (3, .int z69074), (5, .int z69076)]) hx hb dX7_wayTo_80 hl (by decide) rfl (fun ls hl => ?_)
            exact K82 z69092 _ _ _ (by omega) (by omega) hT  (lv_sub hl [1, 2, 3, 4, 0, 5] rfl)
        · have w69093 := cv_eq (rfl : z69084.toInt = z69084.toInt) (by decide : (0 : Int32).toInt = 0) c69085
          refine lv_bipush (v := (-2)) hx hb dX7_wayTo_58 (by decide) ?_
          exact t_iret hQ X hT (⟨rfl, rg_all _⟩) (Nat.le_of_ble_eq_true rfl) (Nat.le_of_ble_eq_true rfl) dX7_wayTo_60
  have K32 : ∀ (z69094 : Int32) (z69095 : Int32) (H : Heap) (locs : List Loc) (ls : Array Slot), (1 ≤ z69094.toInt ∧ z69094.toInt ≤ 2147483647) → (0 ≤ z69095.toInt ∧ z69095.toInt ≤ 1) → TH G ttC A s tag L F H locs → lv_has ls 6 [(0, .ref p0), (1, .int p1), (2, .int p2), (3, .int z69094)] → W p l e { frames := 3, cells := 0, slots := 0, locals := 68 } s m args below meth c H locs 0 0 Q (F0 m 32 ls [.int z69095]) := by
    intro z69094 z69095 H locs ls rz69094 rz69095 hT hl
    refine lv_istore (lv' := [(4, .int z69095), (0, .ref p0), (1, .int p1), (2, .int p2), (3, .int z69094)]) hx hb dX7_wayTo_32 hl (by decide) rfl (fun ls hl => ?_)
    refine lv_aload_n hx hb dX7_wayTo_34 rfl (lv_at hl 1 rfl) ?_
    refine t_get (C := RX7) (T := TX7) (N := 7) X hT m0 g0 rfl rfl 2 (by decide) qw_62 inlX7 rfl dX7_wayTo_35 (fun v69096 hv69096 ov69096 => ?_)
    obtain ⟨b69097, rfl, mb69097, gb69097⟩ := okV_r ov69096
    have gb69097 : tag b69097 = 8 := tg_of gb69097
    refine lv_iload_n hx hb dX7_wayTo_38 rfl (lv_at hl 2 rfl) ?_
    refine t_ild X hT mb69097 gb69097 rfl (by omega) dX7_wayTo_39 (fun z69098 vz69098 rz69098 => ?_)
    have rz69098 : 0 ≤ z69098.toInt ∧ z69098.toInt ≤ 6 := rz69098
    refine lv_istore (lv' := [(5, .int z69098), (4, .int z69095), (0, .ref p0), (1, .int p1), (2, .int p2), (3, .int z69094)]) hx hb dX7_wayTo_40 hl (by decide) rfl (fun ls hl => ?_)
    exact K42 7 z69094 z69095 z69098 _ _ _ (by omega) (by omega) (by omega) hT  (lv_sub hl [2, 3, 4, 5, 1, 0] rfl)
  have K21 : ∀ (z69099 : Int32) (H : Heap) (locs : List Loc) (ls : Array Slot), (1 ≤ z69099.toInt ∧ z69099.toInt ≤ 2147483647) → TH G ttC A s tag L F H locs → lv_has ls 6 [(0, .ref p0), (1, .int p1), (2, .int p2)] → W p l e { frames := 3, cells := 0, slots := 0, locals := 68 } s m args below meth c H locs 0 0 Q (F0 m 21 ls [.int z69099]) := by
    intro z69099 H locs ls rz69099 hT hl
    refine lv_istore_n (lv' := [(3, .int z69099), (0, .ref p0), (1, .int p1), (2, .int p2)]) hx hb dX7_wayTo_21 rfl hl (by decide) rfl (fun ls hl => ?_)
    refine lv_iload_n hx hb dX7_wayTo_22 rfl (lv_at hl 3 rfl) ?_
    refine lv_iconst (v := 1) hx hb dX7_wayTo_23 (by decide) ?_
    refine lv_icmp_ge (tgt := 31) hx hb dX7_wayTo_24 (by decide) (fun c69100 => ?_) (fun c69100 => ?_)
    · have w69101 := cv_le (by decide : (1 : Int32).toInt = 1) (rfl : p2.toInt = p2.toInt) c69100
      refine lv_iconst (v := 0) hx hb dX7_wayTo_31 (by decide) ?_
      exact K32 z69099 0 _ _ _ (by omega) (by decide) hT  (lv_sub hl [1, 2, 3, 0] rfl)
    · have w69102 := cv_nle (by decide : (1 : Int32).toInt = 1) (rfl : p2.toInt = p2.toInt) c69100
      refine lv_iconst (v := 1) hx hb dX7_wayTo_27 (by decide) ?_
      refine lv_goto (tgt := 32) hx hb dX7_wayTo_28 (by decide) ?_
      exact K32 z69099 1 _ _ _ (by omega) (by decide) hT  (lv_sub hl [1, 2, 3, 0] rfl)
  refine lv_aload_n hx hb dX7_wayTo_0 rfl (lv_at hl 0 rfl) ?_
  refine t_get (C := RX7) (T := TX7) (N := 7) X hT m0 g0 rfl rfl 2 (by decide) qw_62 inlX7 rfl dX7_wayTo_1 (fun v69103 hv69103 ov69103 => ?_)
  obtain ⟨b69104, rfl, mb69104, gb69104⟩ := okV_r ov69103
  have gb69104 : tag b69104 = 8 := tg_of gb69104
  refine lv_iload_n hx hb dX7_wayTo_4 rfl (lv_at hl 1 rfl) ?_
  refine t_ild X hT mb69104 gb69104 rfl (by omega) dX7_wayTo_5 (fun z69105 vz69105 rz69105 => ?_)
  have rz69105 : 0 ≤ z69105.toInt ∧ z69105.toInt ≤ 6 := rz69105
  refine lv_if_ne (tgt := 11) hx hb dX7_wayTo_6 (by decide) (fun c69106 => ?_) (fun c69106 => ?_)
  · have w69107 := cv_ne (rfl : z69105.toInt = z69105.toInt) (by decide : (0 : Int32).toInt = 0) c69106
    refine lv_iload_n hx hb dX7_wayTo_11 rfl (lv_at hl 2 rfl) ?_
    refine lv_iconst (v := 1) hx hb dX7_wayTo_12 (by decide) ?_
    refine lv_icmp_ge (tgt := 20) hx hb dX7_wayTo_13 (by decide) (fun c69108 => ?_) (fun c69108 => ?_)
    · have w69109 := cv_le (by decide : (1 : Int32).toInt = 1) (rfl : p2.toInt = p2.toInt) c69108
      refine lv_iload_n hx hb dX7_wayTo_20 rfl (lv_at hl 2 rfl) ?_
      exact K21 p2 _ _ _ (by omega) hT  (lv_sub hl [0, 1, 2] rfl)
    · have w69110 := cv_nle (by decide : (1 : Int32).toInt = 1) (rfl : p2.toInt = p2.toInt) c69108
      refine lv_iconst (v := 1) hx hb dX7_wayTo_16 (by decide) ?_
      refine lv_goto (tgt := 21) hx hb dX7_wayTo_17 (by decide) ?_
      exact K21 1 _ _ _ (by decide) hT  (lv_sub hl [0, 1, 2] rfl)
  · have w69111 := cv_eq (rfl : z69105.toInt = z69105.toInt) (by decide : (0 : Int32).toInt = 0) c69106
    refine lv_iconst (v := 0) hx hb dX7_wayTo_9 (by decide) ?_
    exact t_iret hQ X hT (⟨rfl, rg_all _⟩) (Nat.le_of_ble_eq_true rfl) (Nat.le_of_ble_eq_true rfl) dX7_wayTo_10
set_option maxHeartbeats 4000000 in
set_option maxRecDepth 100000 in
theorem kt194_X11_way (l : Launch) (G : KG) (tag : Nat → Nat) (L : List Nat) (Fo : Nat → va_E) (ho : okT G ttC tag L Fo) (p0 : Nat) (p1 : Int32) (p2 : Int32) (m0 : p0 ∈ L) (g0 : tag p0 = 26) : TMi l yX11_way cX11_way 3 (some .int) { frames := 4, cells := 0, slots := 0, locals := 93 } G ttC tag L Fo [.ref p0, .int p1, .int p2] (fun r F1 => ((-2147483648) ≤ r.toInt ∧ r.toInt ≤ 2147483647) ∧ (∀ b j : Nat, (tag b ≠ 26 ∨ j ≠ 13) → fld F1 b j = fld Fo b j)) := by
  refine t_bodyi (y := yX11_way) (cd := cX11_way) (mL := 3) (rt := (some .int)) (rm := { frames := 4, cells := 0, slots := 0, locals := 93 }) (av := [.ref p0, .int p1, .int p2]) (by decide) (Nat.le_of_ble_eq_true rfl) ho ?_
  intro p e s m args below meth c ls A Q hQ X hT hl
  have hx := X.1.1
  have hb := X.1.2.1
  have hl : lv_has ls 3 [(0, .ref p0), (1, .int p1), (2, .int p2)] := hl
  have rp1 := rg_all p1
  have rp2 := rg_all p2
  obtain ⟨F, hFo⟩ : ∃ F : Nat → va_E, F = Fo := ⟨_, rfl⟩
  rw [← hFo] at hT
  have hfr : ∀ b j : Nat, (tag b ≠ 26 ∨ j ≠ 13) → fld F b j = fld Fo b j := by
    rw [hFo]
    intros
    rfl
  refine lv_aload_n hx hb dX11_way_0 rfl (lv_at hl 0 rfl) ?_
  refine lv_iload_n hx hb dX11_way_1 rfl (lv_at hl 1 rfl) ?_
  refine lv_iload_n hx hb dX11_way_2 rfl (lv_at hl 2 rfl) ?_
  refine t_cVi (n := 2) (C := RX11) (T := TX11) (N := 16) (As := [.int p1, .int p2]) (rest := []) X hT (kt94_X11_isRoom l G tag L F hT.2.2.2 p0 p1 p2 m0 g0) m0 g0 rfl rfl qw_827 qw_828 qw_829 qw_2 qw_830 ⟨rfl, by decide +kernel, by decide +kernel, by decide +kernel⟩ ⟨Nat.le_of_ble_eq_true rfl, Nat.le_of_ble_eq_true rfl⟩ hl rfl rfl (Nat.le_of_ble_eq_true rfl) dX11_way_3 ⟨Nat.le_of_ble_eq_true rfl, Nat.le_of_ble_eq_true rfl⟩ (fun z69226 F9 H locs hT hz69226 => ?_)
  obtain ⟨fz69226, hz69226⟩ := hz69226
  rw [fz69226] at hT
  obtain ⟨hz69226, iz69226⟩ := hz69226
  refine lv_if_ne (tgt := 15) hx hb dX11_way_6 (by decide) (fun c69227 => ?_) (fun c69227 => ?_)
  · have w69228 := cv_ne (rfl : z69226.toInt = z69226.toInt) (by decide : (0 : Int32).toInt = 0) c69227
    have w69229 := (fun h => (iz69226 h).1) (by omega)
    have w69230 := (fun h => (iz69226 h).2) (by omega)
    refine lv_aload_n hx hb dX11_way_15 rfl (lv_at hl 0 rfl) ?_
    refine lv_aload_n hx hb dX11_way_16 rfl (lv_at hl 0 rfl) ?_
    refine t_get (C := RX11) (T := TX11) (N := 16) X hT m0 g0 rfl rfl 5 (by decide) qw_23 inlX11 rfl dX11_way_17 (fun v69231 hv69231 ov69231 => ?_)
    obtain ⟨b69232, rfl, mb69232, gb69232⟩ := okV_r ov69231
    have gb69232 : tag b69232 = 19 := tg_of gb69232
    refine lv_iload_n hx hb dX11_way_20 rfl (lv_at hl 1 rfl) ?_
    refine lv_iload_n hx hb dX11_way_21 rfl (lv_at hl 2 rfl) ?_
    refine t_cVi (n := 2) (C := RX7) (T := TX7) (N := 7) (As := [.int p1, .int p2]) (rest := [.ref p0]) X hT (kt193_X7_wayTo l G tag L F hT.2.2.2 b69232 p1 p2 mb69232 gb69232 (by omega)) mb69232 gb69232 rfl rfl qw_979 qw_980 qw_981 qw_22 qw_982 ⟨rfl, by decide +kernel, by decide +kernel, by decide +kernel⟩ ⟨Nat.le_of_ble_eq_true rfl, Nat.le_of_ble_eq_true rfl⟩ hl rfl rfl (Nat.le_of_ble_eq_true rfl) dX11_way_22 ⟨Nat.le_of_ble_eq_true rfl, Nat.le_of_ble_eq_true rfl⟩ (fun z69233 F9 H locs hT hz69233 => ?_)
    obtain ⟨fz69233, hz69233⟩ := hz69233
    rw [fz69233] at hT
    refine t_cVi (n := 1) (C := RX11) (T := TX11) (N := 16) (As := [.int z69233]) (rest := []) X hT (kt96_X11_answer l G tag L F hT.2.2.2 p0 z69233 m0 g0) m0 g0 rfl rfl qw_463 qw_464 qw_465 qw_2 qw_466 ⟨rfl, by decide +kernel, by decide +kernel, by decide +kernel⟩ ⟨Nat.le_of_ble_eq_true rfl, Nat.le_of_ble_eq_true rfl⟩ hl rfl rfl (Nat.le_of_ble_eq_true rfl) dX11_way_25 ⟨Nat.le_of_ble_eq_true rfl, Nat.le_of_ble_eq_true rfl⟩ (fun z69234 F H locs hT hz69234 => ?_)
    obtain ⟨hz69234, yz69234⟩ := hz69234
    have hv69231 := (yz69234 _ 5 (Or.inr (by decide))).trans hv69231
    have hfr : ∀ b j : Nat, (tag b ≠ 26 ∨ j ≠ 13) → fld F b j = fld Fo b j := fun b j n26_13 => (yz69234 b j n26_13).trans (hfr b j n26_13)
    exact t_iret hQ X hT (⟨rg_all _, hfr⟩) (Nat.le_of_ble_eq_true rfl) (Nat.le_of_ble_eq_true rfl) dX11_way_28
  · have w69235 := cv_eq (rfl : z69226.toInt = z69226.toInt) (by decide : (0 : Int32).toInt = 0) c69227
    refine lv_aload_n hx hb dX11_way_9 rfl (lv_at hl 0 rfl) ?_
    refine lv_iconst (v := 1) hx hb dX11_way_10 (by decide) ?_
    refine t_cVi (n := 1) (C := RX11) (T := TX11) (N := 16) (As := [.int 1]) (rest := []) X hT (kt97_X11_refuse l G tag L F hT.2.2.2 p0 1 m0 g0) m0 g0 rfl rfl qw_152 qw_153 qw_154 qw_2 qw_155 ⟨rfl, by decide +kernel, by decide +kernel, by decide +kernel⟩ ⟨Nat.le_of_ble_eq_true rfl, Nat.le_of_ble_eq_true rfl⟩ hl rfl rfl (Nat.le_of_ble_eq_true rfl) dX11_way_11 ⟨Nat.le_of_ble_eq_true rfl, Nat.le_of_ble_eq_true rfl⟩ (fun z69236 F H locs hT hz69236 => ?_)
    obtain ⟨hz69236, yz69236⟩ := hz69236
    have hfr : ∀ b j : Nat, (tag b ≠ 26 ∨ j ≠ 13) → fld F b j = fld Fo b j := fun b j n26_13 => (yz69236 b j n26_13).trans (hfr b j n26_13)
    exact t_iret hQ X hT (⟨rg_all _, hfr⟩) (Nat.le_of_ble_eq_true rfl) (Nat.le_of_ble_eq_true rfl) dX11_way_14
set_option maxHeartbeats 4000000 in
set_option maxRecDepth 100000 in
theorem kt195_X11_where (l : Launch) (G : KG) (tag : Nat → Nat) (L : List Nat) (F : Nat → va_E) (ho : okT G ttC tag L F) (p0 : Nat) (m0 : p0 ∈ L) (g0 : tag p0 = 26) : TMi l yX11_where cX11_where 1 (some .int) { frames := 0, cells := 0, slots := 0, locals := 0 } G ttC tag L F [.ref p0] (fun r F1 => F1 = F ∧ ((-2147483648) ≤ r.toInt ∧ r.toInt ≤ 2147483647)) := by
  refine t_bodyi (y := yX11_where) (cd := cX11_where) (mL := 1) (rt := (some .int)) (rm := { frames := 0, cells := 0, slots := 0, locals := 0 }) (av := [.ref p0]) (by decide) (Nat.le_of_ble_eq_true rfl) ho ?_
  intro p e s m args below meth c ls A Q hQ X hT hl
  have hx := X.1.1
  have hb := X.1.2.1
  have hl : lv_has ls 1 [(0, .ref p0)] := hl
  refine lv_aload_n hx hb dX11_where_0 rfl (lv_at hl 0 rfl) ?_
  refine t_get (C := RX11) (T := TX11) (N := 16) X hT m0 g0 rfl rfl 13 (by decide) qw_156 inlX11 rfl dX11_where_1 (fun v69314 hv69314 ov69314 => ?_)
  obtain ⟨z69315, rfl, rz69315⟩ := okV_i ov69314
  refine lv_iconst (v := 4) hx hb dX11_where_4 (by decide) ?_
  refine lv_icmp_ne (tgt := 15) hx hb dX11_where_5 (by decide) (fun c69316 => ?_) (fun c69316 => ?_)
  · have w69317 := cv_ne (rfl : z69315.toInt = z69315.toInt) (by decide : (4 : Int32).toInt = 4) c69316
    refine lv_iconst (v := (-1)) hx hb dX11_where_15 (by decide) ?_
    exact t_iret hQ X hT (⟨rfl, rg_all _⟩) (Nat.le_of_ble_eq_true rfl) (Nat.le_of_ble_eq_true rfl) dX11_where_16
  · have w69318 := cv_eq (rfl : z69315.toInt = z69315.toInt) (by decide : (4 : Int32).toInt = 4) c69316
    refine lv_aload_n hx hb dX11_where_8 rfl (lv_at hl 0 rfl) ?_
    refine t_get (C := RX11) (T := TX11) (N := 16) X hT m0 g0 rfl rfl 15 (by decide) qw_149 inlX11 rfl dX11_where_9 (fun v69319 hv69319 ov69319 => ?_)
    obtain ⟨z69320, rfl, rz69320⟩ := okV_i ov69319
    refine lv_goto (tgt := 16) hx hb dX11_where_12 (by decide) ?_
    exact t_iret hQ X hT (⟨rfl, rg_all _⟩) (Nat.le_of_ble_eq_true rfl) (Nat.le_of_ble_eq_true rfl) dX11_where_16
set_option maxHeartbeats 4000000 in
set_option maxRecDepth 100000 in
theorem kt196_X11_whose (l : Launch) (G : KG) (tag : Nat → Nat) (L : List Nat) (Fo : Nat → va_E) (ho : okT G ttC tag L Fo) (p0 : Nat) (p1 : Int32) (p2 : Int32) (m0 : p0 ∈ L) (g0 : tag p0 = 26) : TMi l yX11_whose cX11_whose 3 (some .int) { frames := 2, cells := 0, slots := 0, locals := 50 } G ttC tag L Fo [.ref p0, .int p1, .int p2] (fun r F1 => ((-2147483648) ≤ r.toInt ∧ r.toInt ≤ 2147483647) ∧ (∀ b j : Nat, (tag b ≠ 26 ∨ j ≠ 13) → fld F1 b j = fld Fo b j)) := by
  refine t_bodyi (y := yX11_whose) (cd := cX11_whose) (mL := 3) (rt := (some .int)) (rm := { frames := 2, cells := 0, slots := 0, locals := 50 }) (av := [.ref p0, .int p1, .int p2]) (by decide) (Nat.le_of_ble_eq_true rfl) ho ?_
  intro p e s m args below meth c ls A Q hQ X hT hl
  have hx := X.1.1
  have hb := X.1.2.1
  have hl : lv_has ls 3 [(0, .ref p0), (1, .int p1), (2, .int p2)] := hl
  have rp1 := rg_all p1
  have rp2 := rg_all p2
  obtain ⟨F, hFo⟩ : ∃ F : Nat → va_E, F = Fo := ⟨_, rfl⟩
  rw [← hFo] at hT
  have hfr : ∀ b j : Nat, (tag b ≠ 26 ∨ j ≠ 13) → fld F b j = fld Fo b j := by
    rw [hFo]
    intros
    rfl
  have K19 : ∀ (z69519 : Int32) (F : Nat → va_E) (H : Heap) (locs : List Loc) (ls : Array Slot), (0 ≤ z69519.toInt ∧ z69519.toInt ≤ 1) → TH G ttC A s tag L F H locs → (∀ b j : Nat, (tag b ≠ 26 ∨ j ≠ 13) → fld F b j = fld Fo b j) → fld F p0 2 = .int z69519 → lv_has ls 3 [(0, .ref p0), (1, .int p1), (2, .int p2)] → W p l e { frames := 2, cells := 0, slots := 0, locals := 50 } s m args below meth c H locs 0 0 Q (F0 m 19 ls []) := by
    intro z69519 F H locs ls rz69519 hT hfr qz69519 hl
    refine lv_aload_n hx hb dX11_whose_19 rfl (lv_at hl 0 rfl) ?_
    refine lv_iconst (v := 1) hx hb dX11_whose_20 (by decide) ?_
    refine t_cVi (n := 1) (C := RX11) (T := TX11) (N := 16) (As := [.int 1]) (rest := []) X hT (kt97_X11_refuse l G tag L F hT.2.2.2 p0 1 m0 g0) m0 g0 rfl rfl qw_152 qw_153 qw_154 qw_2 qw_155 ⟨rfl, by decide +kernel, by decide +kernel, by decide +kernel⟩ ⟨Nat.le_of_ble_eq_true rfl, Nat.le_of_ble_eq_true rfl⟩ hl rfl rfl (Nat.le_of_ble_eq_true rfl) dX11_whose_21 ⟨Nat.le_of_ble_eq_true rfl, Nat.le_of_ble_eq_true rfl⟩ (fun z69520 F H locs hT hz69520 => ?_)
    obtain ⟨hz69520, yz69520⟩ := hz69520
    have qz69519 := (yz69520 _ 2 (Or.inr (by decide))).trans qz69519
    have hfr : ∀ b j : Nat, (tag b ≠ 26 ∨ j ≠ 13) → fld F b j = fld Fo b j := fun b j n26_13 => (yz69520 b j n26_13).trans (hfr b j n26_13)
    exact t_iret hQ X hT (⟨rg_all _, hfr⟩) (Nat.le_of_ble_eq_true rfl) (Nat.le_of_ble_eq_true rfl) dX11_whose_24
  refine lv_aload_n hx hb dX11_whose_0 rfl (lv_at hl 0 rfl) ?_
  refine t_get (C := RX11) (T := TX11) (N := 16) X hT m0 g0 rfl rfl 2 (by decide) qw_150 inlX11 rfl dX11_whose_1 (fun v69521 hv69521 ov69521 => ?_)
  obtain ⟨z69522, rfl, rz69522⟩ := okV_i ov69521
  refine lv_if_eq (tgt := 19) hx hb dX11_whose_4 (by decide) (fun c69523 => ?_) (fun c69523 => ?_)
  · have w69524 := cv_eq (rfl : z69522.toInt = z69522.toInt) (by decide : (0 : Int32).toInt = 0) c69523
    exact K19 z69522 _ _ _ _ (by omega) hT hfr hv69521 (lv_sub hl [0, 1, 2] rfl)
  · have w69525 := cv_ne (rfl : z69522.toInt = z69522.toInt) (by decide : (0 : Int32).toInt = 0) c69523
    refine lv_aload_n hx hb dX11_whose_7 rfl (lv_at hl 0 rfl) ?_
    refine t_get (C := RX11) (T := TX11) (N := 16) X hT m0 g0 rfl rfl 3 (by decide) qw_18 inlX11 rfl dX11_whose_8 (fun v69526 hv69526 ov69526 => ?_)
    obtain ⟨b69527, rfl, mb69527, gb69527⟩ := okV_r ov69526
    have gb69527 : tag b69527 = 18 := tg_of gb69527
    refine lv_iload_n hx hb dX11_whose_11 rfl (lv_at hl 1 rfl) ?_
    refine lv_iload_n hx hb dX11_whose_12 rfl (lv_at hl 2 rfl) ?_
    refine t_cVi (n := 2) (C := RX1) (T := TX1) (N := 20) (As := [.int p1, .int p2]) (rest := []) X hT (kt39_X1_isOn l G tag L F hT.2.2.2 b69527 p1 p2 mb69527 gb69527) mb69527 gb69527 rfl rfl qw_711 qw_385 qw_386 qw_17 qw_387 ⟨rfl, by decide +kernel, by decide +kernel, by decide +kernel⟩ ⟨Nat.le_of_ble_eq_true rfl, Nat.le_of_ble_eq_true rfl⟩ hl rfl rfl (Nat.le_of_ble_eq_true rfl) dX11_whose_13 ⟨Nat.le_of_ble_eq_true rfl, Nat.le_of_ble_eq_true rfl⟩ (fun z69528 F9 H locs hT hz69528 => ?_)
    obtain ⟨fz69528, hz69528⟩ := hz69528
    rw [fz69528] at hT
    refine lv_if_ne (tgt := 25) hx hb dX11_whose_16 (by decide) (fun c69529 => ?_) (fun c69529 => ?_)
    · have w69530 := cv_ne (rfl : z69528.toInt = z69528.toInt) (by decide : (0 : Int32).toInt = 0) c69529
      refine lv_aload_n hx hb dX11_whose_25 rfl (lv_at hl 0 rfl) ?_
      refine lv_aload_n hx hb dX11_whose_26 rfl (lv_at hl 0 rfl) ?_
      refine t_get (C := RX11) (T := TX11) (N := 16) X hT m0 g0 rfl rfl 3 (by decide) qw_18 inlX11 rfl dX11_whose_27 (fun v69531 hv69531 ov69531 => ?_)
      obtain rfl : v69531 = .ref b69527 := hv69531.symm.trans hv69526
      refine lv_aload_n hx hb dX11_whose_30 rfl (lv_at hl 0 rfl) ?_
      refine t_get (C := RX11) (T := TX11) (N := 16) X hT m0 g0 rfl rfl 5 (by decide) qw_23 inlX11 rfl dX11_whose_31 (fun v69532 hv69532 ov69532 => ?_)
      obtain ⟨b69533, rfl, mb69533, gb69533⟩ := okV_r ov69532
      have gb69533 : tag b69533 = 19 := tg_of gb69533
      refine lv_iload_n hx hb dX11_whose_34 rfl (lv_at hl 1 rfl) ?_
      refine lv_iload_n hx hb dX11_whose_35 rfl (lv_at hl 2 rfl) ?_
      refine t_cSi (n := 4) (As := [.ref b69527, .ref b69533, .int p1, .int p2]) (rest := [.ref p0]) X hT (kt172_X6_ownersOf l G tag L F hT.2.2.2 b69527 b69533 p1 p2 mb69527 gb69527 mb69533 gb69533) qw_712 qw_713 qw_380 qw_714 ⟨by decide +kernel, by decide +kernel, by decide +kernel⟩ ⟨Nat.le_of_ble_eq_true rfl, Nat.le_of_ble_eq_true rfl⟩ hl rfl rfl (Nat.le_of_ble_eq_true rfl) dX11_whose_36 ⟨Nat.le_of_ble_eq_true rfl, Nat.le_of_ble_eq_true rfl⟩ (fun z69534 F9 H locs hT hz69534 => ?_)
      obtain ⟨fz69534, hz69534⟩ := hz69534
      rw [fz69534] at hT
      refine t_cVi (n := 1) (C := RX11) (T := TX11) (N := 16) (As := [.int z69534]) (rest := []) X hT (kt96_X11_answer l G tag L F hT.2.2.2 p0 z69534 m0 g0) m0 g0 rfl rfl qw_463 qw_464 qw_465 qw_2 qw_466 ⟨rfl, by decide +kernel, by decide +kernel, by decide +kernel⟩ ⟨Nat.le_of_ble_eq_true rfl, Nat.le_of_ble_eq_true rfl⟩ hl rfl rfl (Nat.le_of_ble_eq_true rfl) dX11_whose_39 ⟨Nat.le_of_ble_eq_true rfl, Nat.le_of_ble_eq_true rfl⟩ (fun z69535 F H locs hT hz69535 => ?_)
      obtain ⟨hz69535, yz69535⟩ := hz69535
      have hv69521 := (yz69535 _ 2 (Or.inr (by decide))).trans hv69521
      have hv69526 := (yz69535 _ 3 (Or.inr (by decide))).trans hv69526
      have hv69532 := (yz69535 _ 5 (Or.inr (by decide))).trans hv69532
      have hfr : ∀ b j : Nat, (tag b ≠ 26 ∨ j ≠ 13) → fld F b j = fld Fo b j := fun b j n26_13 => (yz69535 b j n26_13).trans (hfr b j n26_13)
      exact t_iret hQ X hT (⟨rg_all _, hfr⟩) (Nat.le_of_ble_eq_true rfl) (Nat.le_of_ble_eq_true rfl) dX11_whose_42
    · have w69536 := cv_eq (rfl : z69528.toInt = z69528.toInt) (by decide : (0 : Int32).toInt = 0) c69529
      exact K19 z69522 _ _ _ _ (by omega) hT hfr hv69521 (lv_sub hl [0, 1, 2] rfl)
