set_option maxHeartbeats 4000000 in
set_option maxRecDepth 100000 in
theorem kt62_X11_isRoom (l : Launch) (G : KG) (tag : Nat → Nat) (L : List Nat) (F : Nat → va_E) (ho : okT G ttC tag L F) (p0 : Nat) (p1 : Int32) (p2 : Int32) (m0 : p0 ∈ L) (g0 : tag p0 = 26) : TMi l yX11_isRoom cX11_isRoom 3 (some .boolean) { frames := 1, cells := 0, slots := 0, locals := 21 } G ttC tag L F [.ref p0, .int p1, .int p2] (fun r F1 => F1 = F ∧ ((0 ≤ r.toInt ∧ r.toInt ≤ 1) ∧ (r.toInt ≠ 0 → (0 ≤ p1.toInt ∧ p1.toInt ≤ 3) ∧ (0 ≤ p2.toInt ∧ p2.toInt ≤ 6)))) := by
  refine t_bodyi (y := yX11_isRoom) (cd := cX11_isRoom) (mL := 3) (rt := (some .boolean)) (rm := { frames := 1, cells := 0, slots := 0, locals := 21 }) (av := [.ref p0, .int p1, .int p2]) (by decide) (Nat.le_of_ble_eq_true rfl) ho ?_
  intro p e s m args below meth c ls A Q hQ X hT hl
  have hx := X.1.1
  have hb := X.1.2.1
  have hl : lv_has ls 3 [(0, .ref p0), (1, .int p1), (2, .int p2)] := hl
  have rp1 := rg_all p1
  have rp2 := rg_all p2
  refine lv_aload_n hx hb dX11_isRoom_0 rfl (lv_at hl 0 rfl) ?_
  refine lv_iload_n hx hb dX11_isRoom_1 rfl (lv_at hl 1 rfl) ?_
  refine t_cVi (n := 1) (C := RX11) (T := TX11) (N := 16) (As := [.int p1]) (rest := []) X hT (kt61_X11_isHouse l G tag L F hT.2.2.2 p0 p1 m0 g0) m0 g0 rfl rfl qw_770 qw_771 qw_772 qw_2 qw_773 ⟨rfl, by decide +kernel, by decide +kernel, by decide +kernel⟩ ⟨Nat.le_of_ble_eq_true rfl, Nat.le_of_ble_eq_true rfl⟩ hl rfl rfl (Nat.le_of_ble_eq_true rfl) dX11_isRoom_2 ⟨Nat.le_of_ble_eq_true rfl, Nat.le_of_ble_eq_true rfl⟩ (fun z20426 F9 H locs hT hz20426 => ?_)
  obtain ⟨fz20426, hz20426⟩ := hz20426
  rw [fz20426] at hT
  obtain ⟨hz20426, iz20426⟩ := hz20426
  refine lv_if_eq (tgt := 29) hx hb dX11_isRoom_5 (by decide) (fun c20427 => ?_) (fun c20427 => ?_)
  · have w20428 := cv_eq (rfl : z20426.toInt = z20426.toInt) (by decide : (0 : Int32).toInt = 0) c20427
    refine lv_iconst (v := 0) hx hb dX11_isRoom_29 (by decide) ?_
    exact t_zret hQ X hT (by decide) (⟨rfl, ⟨(by decide), fun h => absurd (by decide) h⟩⟩) (Nat.le_of_ble_eq_true rfl) (Nat.le_of_ble_eq_true rfl) dX11_isRoom_30
  · have w20429 := cv_ne (rfl : z20426.toInt = z20426.toInt) (by decide : (0 : Int32).toInt = 0) c20427
    have w20430 := (fun h => (iz20426 h)) (by omega)
    refine lv_iload_n hx hb dX11_isRoom_8 rfl (lv_at hl 2 rfl) ?_
    refine lv_if_lt (tgt := 29) hx hb dX11_isRoom_9 (by decide) (fun c20431 => ?_) (fun c20431 => ?_)
    · have w20432 := cv_lt (rfl : p2.toInt = p2.toInt) (by decide : (0 : Int32).toInt = 0) c20431
      refine lv_iconst (v := 0) hx hb dX11_isRoom_29 (by decide) ?_
      exact t_zret hQ X hT (by decide) (⟨rfl, ⟨(by decide), fun h => absurd (by decide) h⟩⟩) (Nat.le_of_ble_eq_true rfl) (Nat.le_of_ble_eq_true rfl) dX11_isRoom_30
    · have w20433 := cv_nlt (rfl : p2.toInt = p2.toInt) (by decide : (0 : Int32).toInt = 0) c20431
      refine lv_iload_n hx hb dX11_isRoom_12 rfl (lv_at hl 2 rfl) ?_
      refine lv_aload_n hx hb dX11_isRoom_13 rfl (lv_at hl 0 rfl) ?_
      refine t_get (C := RX11) (T := TX11) (N := 16) X hT m0 g0 rfl rfl 5 (by decide) qw_23 inlX11 rfl dX11_isRoom_14 (fun v20434 hv20434 ov20434 => ?_)
      obtain ⟨b20435, rfl, mb20435, gb20435⟩ := okV_r ov20434
      have gb20435 : tag b20435 = 19 := tg_of gb20435
      refine t_get (C := RX7) (T := TX7) (N := 7) X hT mb20435 gb20435 rfl rfl 2 (by decide) qw_766 inlX7 rfl dX11_isRoom_17 (fun v20436 hv20436 ov20436 => ?_)
      obtain ⟨b20437, rfl, mb20437, gb20437⟩ := okV_r ov20436
      have gb20437 : tag b20437 = 8 := tg_of gb20437
      refine lv_iload_n hx hb dX11_isRoom_20 rfl (lv_at hl 1 rfl) ?_
      refine t_ild X hT mb20437 gb20437 rfl (by omega) dX11_isRoom_21 (fun z20438 vz20438 rz20438 => ?_)
      have rz20438 : 0 ≤ z20438.toInt ∧ z20438.toInt ≤ 6 := rz20438
      refine lv_icmp_gt (tgt := 29) hx hb dX11_isRoom_22 (by decide) (fun c20439 => ?_) (fun c20439 => ?_)
      · have w20440 := cv_lt (rfl : z20438.toInt = z20438.toInt) (rfl : p2.toInt = p2.toInt) c20439
        refine lv_iconst (v := 0) hx hb dX11_isRoom_29 (by decide) ?_
        exact t_zret hQ X hT (by decide) (⟨rfl, ⟨(by decide), fun h => absurd (by decide) h⟩⟩) (Nat.le_of_ble_eq_true rfl) (Nat.le_of_ble_eq_true rfl) dX11_isRoom_30
      · have w20441 := cv_nlt (rfl : z20438.toInt = z20438.toInt) (rfl : p2.toInt = p2.toInt) c20439
        refine lv_iconst (v := 1) hx hb dX11_isRoom_25 (by decide) ?_
        refine lv_goto (tgt := 30) hx hb dX11_isRoom_26 (by decide) ?_
        exact t_zret hQ X hT (by decide) (⟨rfl, ⟨(by decide), fun _ => ⟨by omega, by omega⟩⟩⟩) (Nat.le_of_ble_eq_true rfl) (Nat.le_of_ble_eq_true rfl) dX11_isRoom_30
set_option maxHeartbeats 4000000 in
set_option maxRecDepth 100000 in
theorem kt63_X11_refuse (l : Launch) (G : KG) (tag : Nat → Nat) (L : List Nat) (Fo : Nat → va_E) (ho : okT G ttC tag L Fo) (p0 : Nat) (p1 : Int32) (m0 : p0 ∈ L) (g0 : tag p0 = 26) : TMi l yX11_refuse cX11_refuse 2 (some .int) { frames := 0, cells := 0, slots := 0, locals := 0 } G ttC tag L Fo [.ref p0, .int p1] (fun r F1 => ((-1) ≤ r.toInt ∧ r.toInt ≤ (-1)) ∧ ((∀ b j : Nat, (tag b ≠ 26 ∨ j ≠ 13) → fld F1 b j = fld Fo b j) ∧ EF tag F1 Fo)) := by
  refine t_bodyi (y := yX11_refuse) (cd := cX11_refuse) (mL := 2) (rt := (some .int)) (rm := { frames := 0, cells := 0, slots := 0, locals := 0 }) (av := [.ref p0, .int p1]) (by decide) (Nat.le_of_ble_eq_true rfl) ho ?_
  intro p e s m args below meth c ls A Q hQ X hT hl
  have hx := X.1.1
  have hb := X.1.2.1
  have hl : lv_has ls 2 [(0, .ref p0), (1, .int p1)] := hl
  have rp1 := rg_all p1
  obtain ⟨F, hFo⟩ : ∃ F : Nat → va_E, F = Fo := ⟨_, rfl⟩
  rw [← hFo] at hT
  have hfr : (∀ b j : Nat, (tag b ≠ 26 ∨ j ≠ 13) → fld F b j = fld Fo b j) ∧ EF tag F Fo := by
    rw [hFo]
    exact ⟨by intros; rfl, fun _ _ _ => rfl⟩
  refine lv_aload_n hx hb dX11_refuse_0 rfl (lv_at hl 0 rfl) ?_
  refine lv_iload_n hx hb dX11_refuse_1 rfl (lv_at hl 1 rfl) ?_
  refine t_put (C := RX11) (T := TX11) (N := 16) (v := .int p1) X hT m0 g0 rfl tyX11 tyX11_ok nmX11 rfl 13 (by decide) qw_156 inlX11 rfl (by first | rfl | decide) (by first | rfl | decide) rfl (⟨_, rfl, (show (-2147483648) ≤ (p1 : Int32).toInt from (by omega)), (show (p1 : Int32).toInt ≤ 2147483647 from (by omega))⟩) dX11_refuse_2 (fun F H locs hT v20468 h1v20468 h2v20468 => ?_)
  have hfr : (∀ b j : Nat, (tag b ≠ 26 ∨ j ≠ 13) → fld F b j = fld Fo b j) ∧ EF tag F Fo := ⟨fun b j n26_13 => (h1v20468 b j (fr_ne g0 n26_13)).trans (hfr.1 b j n26_13), fun b j hb => (h2v20468 b j).trans (hfr.2 b j hb)⟩
  refine lv_iconst (v := (-1)) hx hb dX11_refuse_5 (by decide) ?_
  exact t_iret hQ X hT (⟨(by decide), hfr⟩) (Nat.le_of_ble_eq_true rfl) (Nat.le_of_ble_eq_true rfl) dX11_refuse_6
set_option maxHeartbeats 4000000 in
set_option maxRecDepth 100000 in
theorem kt64_X11_breaks (l : Launch) (G : KG) (tag : Nat → Nat) (L : List Nat) (Fo : Nat → va_E) (ho : okT G ttC tag L Fo) (p0 : Nat) (p1 : Int32) (p2 : Int32) (m0 : p0 ∈ L) (g0 : tag p0 = 26) : TMi l yX11_breaks cX11_breaks 3 (some .int) { frames := 6, cells := 0, slots := 0, locals := 149 } G ttC tag L Fo [.ref p0, .int p1, .int p2] (fun r F1 => ((-2147483648) ≤ r.toInt ∧ r.toInt ≤ 2147483647) ∧ ((∀ b j : Nat, (tag b ≠ 21 ∨ j ≠ 0) → (tag b ≠ 21 ∨ j ≠ 1) → (tag b ≠ 26 ∨ j ≠ 13) → fld F1 b j = fld Fo b j) ∧ EF tag F1 Fo)) := by
  refine t_bodyi (y := yX11_breaks) (cd := cX11_breaks) (mL := 3) (rt := (some .int)) (rm := { frames := 6, cells := 0, slots := 0, locals := 149 }) (av := [.ref p0, .int p1, .int p2]) (by decide) (Nat.le_of_ble_eq_true rfl) ho ?_
  intro p e s m args below meth c ls A Q hQ X hT hl
  have hx := X.1.1
  have hb := X.1.2.1
  have hl : lv_has ls 3 [(0, .ref p0), (1, .int p1), (2, .int p2)] := hl
  have rp1 := rg_all p1
  have rp2 := rg_all p2
  obtain ⟨F, hFo⟩ : ∃ F : Nat → va_E, F = Fo := ⟨_, rfl⟩
  rw [← hFo] at hT
  have hfr : (∀ b j : Nat, (tag b ≠ 21 ∨ j ≠ 0) → (tag b ≠ 21 ∨ j ≠ 1) → (tag b ≠ 26 ∨ j ≠ 13) → fld F b j = fld Fo b j) ∧ EF tag F Fo := by
    rw [hFo]
    exact ⟨by intros; rfl, fun _ _ _ => rfl⟩
  refine lv_aload_n hx hb dX11_breaks_0 rfl (lv_at hl 0 rfl) ?_
  refine lv_iload_n hx hb dX11_breaks_1 rfl (lv_at hl 1 rfl) ?_
  refine lv_iload_n hx hb dX11_breaks_2 rfl (lv_at hl 2 rfl) ?_
  refine t_cVi (n := 2) (C := RX11) (T := TX11) (N := 16) (As := [.int p1, .int p2]) (rest := []) X hT (kt62_X11_isRoom l G tag L F hT.2.2.2 p0 p1 p2 m0 g0) m0 g0 rfl rfl qw_827 qw_828 qw_829 qw_2 qw_830 ⟨rfl, by decide +kernel, by decide +kernel, by decide +kernel⟩ ⟨Nat.le_of_ble_eq_true rfl, Nat.le_of_ble_eq_true rfl⟩ hl rfl rfl (Nat.le_of_ble_eq_true rfl) dX11_breaks_3 ⟨Nat.le_of_ble_eq_true rfl, Nat.le_of_ble_eq_true rfl⟩ (fun z20630 F9 H locs hT hz20630 => ?_)
  obtain ⟨fz20630, hz20630⟩ := hz20630
  rw [fz20630] at hT
  obtain ⟨hz20630, iz20630⟩ := hz20630
  refine lv_if_ne (tgt := 15) hx hb dX11_breaks_6 (by decide) (fun c20631 => ?_) (fun c20631 => ?_)
  · have w20632 := cv_ne (rfl : z20630.toInt = z20630.toInt) (by decide : (0 : Int32).toInt = 0) c20631
    have w20633 := (fun h => (iz20630 h).1) (by omega)
    have w20634 := (fun h => (iz20630 h).2) (by omega)
    refine lv_aload_n hx hb dX11_breaks_15 rfl (lv_at hl 0 rfl) ?_
    refine lv_aload_n hx hb dX11_breaks_16 rfl (lv_at hl 0 rfl) ?_
    refine t_get (C := RX11) (T := TX11) (N := 16) X hT m0 g0 rfl rfl 10 (by decide) qw_37 inlX11 rfl dX11_breaks_17 (fun v20635 hv20635 ov20635 => ?_)
    obtain ⟨b20636, rfl, mb20636, gb20636⟩ := okV_r ov20635
    have gb20636 : tag b20636 = 21 := tg_of gb20636
    refine lv_aload_n hx hb dX11_breaks_20 rfl (lv_at hl 0 rfl) ?_
    refine t_get (C := RX11) (T := TX11) (N := 16) X hT m0 g0 rfl rfl 3 (by decide) qw_18 inlX11 rfl dX11_breaks_21 (fun v20637 hv20637 ov20637 => ?_)
    obtain ⟨b20638, rfl, mb20638, gb20638⟩ := okV_r ov20637
    have gb20638 : tag b20638 = 18 := tg_of gb20638
    refine lv_aload_n hx hb dX11_breaks_24 rfl (lv_at hl 0 rfl) ?_
    refine t_get (C := RX11) (T := TX11) (N := 16) X hT m0 g0 rfl rfl 5 (by decide) qw_23 inlX11 rfl dX11_breaks_25 (fun v20639 hv20639 ov20639 => ?_)
    obtain ⟨b20640, rfl, mb20640, gb20640⟩ := okV_r ov20639
    have gb20640 : tag b20640 = 19 := tg_of gb20640
    refine lv_iload_n hx hb dX11_breaks_28 rfl (lv_at hl 1 rfl) ?_
    refine lv_iload_n hx hb dX11_breaks_29 rfl (lv_at hl 2 rfl) ?_
    refine t_cVi (n := 4) (C := RX0) (T := TX0) (N := 2) (As := [.ref b20638, .ref b20640, .int p1, .int p2]) (rest := [.ref p0]) X hT (kt41_X0_cheapest l G tag L F hT.2.2.2 b20636 b20638 b20640 p1 p2 mb20636 gb20636 mb20638 gb20638 mb20640 gb20640 (by omega)) mb20636 gb20636 rfl rfl qw_1012 qw_1013 qw_1014 qw_36 qw_1015 ⟨rfl, by decide +kernel, by decide +kernel, by decide +kernel⟩ ⟨Nat.le_of_ble_eq_true rfl, Nat.le_of_ble_eq_true rfl⟩ hl rfl rfl (Nat.le_of_ble_eq_true rfl) dX11_breaks_30 ⟨Nat.le_of_ble_eq_true rfl, Nat.le_of_ble_eq_true rfl⟩ (fun z20641 F H locs hT hz20641 => ?_)
    obtain ⟨hz20641, yz20641⟩ := hz20641
    have hv20635 := (yz20641.1 _ 10 (Or.inr (by decide)) (Or.inr (by decide))).trans hv20635
    have hv20637 := (yz20641.1 _ 3 (Or.inr (by decide)) (Or.inr (by decide))).trans hv20637
    have hv20639 := (yz20641.1 _ 5 (Or.inr (by decide)) (Or.inr (by decide))).trans hv20639
    have hfr : (∀ b j : Nat, (tag b ≠ 21 ∨ j ≠ 0) → (tag b ≠ 21 ∨ j ≠ 1) → (tag b ≠ 26 ∨ j ≠ 13) → fld F b j = fld Fo b j) ∧ EF tag F Fo := ⟨fun b j n21_0 n21_1 n26_13 => (yz20641.1 b j n21_0 n21_1).trans (hfr.1 b j n21_0 n21_1 n26_13), fun b j hb => (yz20641.2 b j hb).trans (hfr.2 b j hb)⟩
    refine lv_bipush (v := 8) hx hb dX11_breaks_33 (by decide) ?_
    refine lv_irem hx hb dX11_breaks_35 (by decide) ?_
    refine lv_topi (fun z20642 ez20642 => ?_)
    have rz20642 := rg_all z20642
    refine t_cVi (n := 1) (C := RX11) (T := TX11) (N := 16) (As := [.int z20642]) (rest := []) X hT (kt56_X11_answer l G tag L F hT.2.2.2 p0 z20642 m0 g0) m0 g0 rfl rfl qw_463 qw_464 qw_465 qw_2 qw_466 ⟨rfl, by decide +kernel, by decide +kernel, by decide +kernel⟩ ⟨Nat.le_of_ble_eq_true rfl, Nat.le_of_ble_eq_true rfl⟩ hl rfl rfl (Nat.le_of_ble_eq_true rfl) dX11_breaks_36 ⟨Nat.le_of_ble_eq_true rfl, Nat.le_of_ble_eq_true rfl⟩ (fun z20643 F H locs hT hz20643 => ?_)
    obtain ⟨hz20643, yz20643⟩ := hz20643
    have hv20635 := (yz20643.1 _ 10 (Or.inr (by decide))).trans hv20635
    have hv20637 := (yz20643.1 _ 3 (Or.inr (by decide))).trans hv20637
    have hv20639 := (yz20643.1 _ 5 (Or.inr (by decide))).trans hv20639
    have hfr : (∀ b j : Nat, (tag b ≠ 21 ∨ j ≠ 0) → (tag b ≠ 21 ∨ j ≠ 1) → (tag b ≠ 26 ∨ j ≠ 13) → fld F b j = fld Fo b j) ∧ EF tag F Fo := ⟨fun b j n21_0 n21_1 n26_13 => (yz20643.1 b j n26_13).trans (hfr.1 b j n21_0 n21_1 n26_13), fun b j hb => (yz20643.2 b j hb).trans (hfr.2 b j hb)⟩
    exact t_iret hQ X hT (⟨rg_all _, hfr⟩) (Nat.le_of_ble_eq_true rfl) (Nat.le_of_ble_eq_true rfl) dX11_breaks_39
  · have w20644 := cv_eq (rfl : z20630.toInt = z20630.toInt) (by decide : (0 : Int32).toInt = 0) c20631
    refine lv_aload_n hx hb dX11_breaks_9 rfl (lv_at hl 0 rfl) ?_
    refine lv_iconst (v := 1) hx hb dX11_breaks_10 (by decide) ?_
    refine t_cVi (n := 1) (C := RX11) (T := TX11) (N := 16) (As := [.int 1]) (rest := []) X hT (kt63_X11_refuse l G tag L F hT.2.2.2 p0 1 m0 g0) m0 g0 rfl rfl qw_152 qw_153 qw_154 qw_2 qw_155 ⟨rfl, by decide +kernel, by decide +kernel, by decide +kernel⟩ ⟨Nat.le_of_ble_eq_true rfl, Nat.le_of_ble_eq_true rfl⟩ hl rfl rfl (Nat.le_of_ble_eq_true rfl) dX11_breaks_11 ⟨Nat.le_of_ble_eq_true rfl, Nat.le_of_ble_eq_true rfl⟩ (fun z20645 F H locs hT hz20645 => ?_)
    obtain ⟨hz20645, yz20645⟩ := hz20645
    have hfr : (∀ b j : Nat, (tag b ≠ 21 ∨ j ≠ 0) → (tag b ≠ 21 ∨ j ≠ 1) → (tag b ≠ 26 ∨ j ≠ 13) → fld F b j = fld Fo b j) ∧ EF tag F Fo := ⟨fun b j n21_0 n21_1 n26_13 => (yz20645.1 b j n26_13).trans (hfr.1 b j n21_0 n21_1 n26_13), fun b j hb => (yz20645.2 b j hb).trans (hfr.2 b j hb)⟩
    exact t_iret hQ X hT (⟨rg_all _, hfr⟩) (Nat.le_of_ble_eq_true rfl) (Nat.le_of_ble_eq_true rfl) dX11_breaks_14
set_option maxHeartbeats 4000000 in
set_option maxRecDepth 100000 in
theorem kt65_X11_isStone (l : Launch) (G : KG) (tag : Nat → Nat) (L : List Nat) (F : Nat → va_E) (ho : okT G ttC tag L F) (p0 : Nat) (p1 : Int32) (m0 : p0 ∈ L) (g0 : tag p0 = 26) : TMi l yX11_isStone cX11_isStone 2 (some .boolean) { frames := 0, cells := 0, slots := 0, locals := 0 } G ttC tag L F [.ref p0, .int p1] (fun r F1 => F1 = F ∧ (0 ≤ r.toInt ∧ r.toInt ≤ 1)) := by
  refine t_bodyi (y := yX11_isStone) (cd := cX11_isStone) (mL := 2) (rt := (some .boolean)) (rm := { frames := 0, cells := 0, slots := 0, locals := 0 }) (av := [.ref p0, .int p1]) (by decide) (Nat.le_of_ble_eq_true rfl) ho ?_
  intro p e s m args below meth c ls A Q hQ X hT hl
  have hx := X.1.1
  have hb := X.1.2.1
  have hl : lv_has ls 2 [(0, .ref p0), (1, .int p1)] := hl
  have rp1 := rg_all p1
  refine lv_aload_n hx hb dX11_isStone_0 rfl (lv_at hl 0 rfl) ?_
  refine t_get (C := RX11) (T := TX11) (N := 16) X hT m0 g0 rfl rfl 2 (by decide) qw_150 inlX11 rfl dX11_isStone_1 (fun v20816 hv20816 ov20816 => ?_)
  obtain ⟨z20817, rfl, rz20817⟩ := okV_i ov20816
  refine lv_if_eq (tgt := 26) hx hb dX11_isStone_4 (by decide) (fun c20818 => ?_) (fun c20818 => ?_)
  · have w20819 := cv_eq (rfl : z20817.toInt = z20817.toInt) (by decide : (0 : Int32).toInt = 0) c20818
    refine lv_iconst (v := 0) hx hb dX11_isStone_26 (by decide) ?_
    exact t_zret hQ X hT (by decide) (⟨rfl, (by decide)⟩) (Nat.le_of_ble_eq_true rfl) (Nat.le_of_ble_eq_true rfl) dX11_isStone_27
  · have w20820 := cv_ne (rfl : z20817.toInt = z20817.toInt) (by decide : (0 : Int32).toInt = 0) c20818
    refine lv_iload_n hx hb dX11_isStone_7 rfl (lv_at hl 1 rfl) ?_
    refine lv_if_lt (tgt := 26) hx hb dX11_isStone_8 (by decide) (fun c20821 => ?_) (fun c20821 => ?_)
    · have w20822 := cv_lt (rfl : p1.toInt = p1.toInt) (by decide : (0 : Int32).toInt = 0) c20821
      refine lv_iconst (v := 0) hx hb dX11_isStone_26 (by decide) ?_
      exact t_zret hQ X hT (by decide) (⟨rfl, (by decide)⟩) (Nat.le_of_ble_eq_true rfl) (Nat.le_of_ble_eq_true rfl) dX11_isStone_27
    · have w20823 := cv_nlt (rfl : p1.toInt = p1.toInt) (by decide : (0 : Int32).toInt = 0) c20821
      refine lv_iload_n hx hb dX11_isStone_11 rfl (lv_at hl 1 rfl) ?_
      refine lv_aload_n hx hb dX11_isStone_12 rfl (lv_at hl 0 rfl) ?_
      refine t_get (C := RX11) (T := TX11) (N := 16) X hT m0 g0 rfl rfl 3 (by decide) qw_18 inlX11 rfl dX11_isStone_13 (fun v20824 hv20824 ov20824 => ?_)
      obtain ⟨b20825, rfl, mb20825, gb20825⟩ := okV_r ov20824
      have gb20825 : tag b20825 = 18 := tg_of gb20825
      refine t_get (C := RX1) (T := TX1) (N := 20) X hT mb20825 gb20825 rfl rfl 8 (by decide) qw_958 inlX1 rfl dX11_isStone_16 (fun v20826 hv20826 ov20826 => ?_)
      obtain ⟨z20827, rfl, rz20827⟩ := okV_i ov20826
      refine lv_icmp_ge (tgt := 26) hx hb dX11_isStone_19 (by decide) (fun c20828 => ?_) (fun c20828 => ?_)
      · have w20829 := cv_le (rfl : z20827.toInt = z20827.toInt) (rfl : p1.toInt = p1.toInt) c20828
        refine lv_iconst (v := 0) hx hb dX11_isStone_26 (by decide) ?_
        exact t_zret hQ X hT (by decide) (⟨rfl, (by decide)⟩) (Nat.le_of_ble_eq_true rfl) (Nat.le_of_ble_eq_true rfl) dX11_isStone_27
      · have w20830 := cv_nle (rfl : z20827.toInt = z20827.toInt) (rfl : p1.toInt = p1.toInt) c20828
        refine lv_iconst (v := 1) hx hb dX11_isStone_22 (by decide) ?_
        refine lv_goto (tgt := 27) hx hb dX11_isStone_23 (by decide) ?_
        exact t_zret hQ X hT (by decide) (⟨rfl, (by decide)⟩) (Nat.le_of_ble_eq_true rfl) (Nat.le_of_ble_eq_true rfl) dX11_isStone_27
set_option maxHeartbeats 4000000 in
set_option maxRecDepth 100000 in
theorem kt66_X2_keep (l : Launch) (G : KG) (tag : Nat → Nat) (L : List Nat) (Fo : Nat → va_E) (ho : okT G ttC tag L Fo) (p0 : Nat) (p1 : Nat) (m0 : p0 ∈ L) (g0 : tag p0 = 23) (m1 : p1 ∈ L) (g1 : tag p1 = 19) : TMv l yX2_keep cX2_keep 2 { frames := 2, cells := 0, slots := 0, locals := 45 } G ttC tag L Fo [.ref p0, .ref p1] (fun F1 => ((∀ b j : Nat, (tag b ≠ 19 ∨ j ≠ 0) → (tag b ≠ 19 ∨ j ≠ 1) → (tag b ≠ 23 ∨ j ≠ 2) → (tag b ≠ 23 ∨ j ≠ 3) → fld F1 b j = fld Fo b j) ∧ EF tag F1 Fo)) := by
  refine t_bodyv (y := yX2_keep) (cd := cX2_keep) (mL := 2) (rm := { frames := 2, cells := 0, slots := 0, locals := 45 }) (av := [.ref p0, .ref p1]) (by decide) (Nat.le_of_ble_eq_true rfl) ho ?_
  intro p e s m args below meth c ls A Q hQ X hT hl
  have hx := X.1.1
  have hb := X.1.2.1
  have hl : lv_has ls 2 [(0, .ref p0), (1, .ref p1)] := hl
  obtain ⟨F, hFo⟩ : ∃ F : Nat → va_E, F = Fo := ⟨_, rfl⟩
  rw [← hFo] at hT
  have hfr : (∀ b j : Nat, (tag b ≠ 19 ∨ j ≠ 0) → (tag b ≠ 19 ∨ j ≠ 1) → (tag b ≠ 23 ∨ j ≠ 2) → (tag b ≠ 23 ∨ j ≠ 3) → fld F b j = fld Fo b j) ∧ EF tag F Fo := by
    rw [hFo]
    exact ⟨by intros; rfl, fun _ _ _ => rfl⟩
  have K32 : ∀ (z21182 : Int32) (F : Nat → va_E) (H : Heap) (locs : List Loc) (ls : Array Slot), (0 ≤ z21182.toInt ∧ z21182.toInt ≤ 9) → TH G ttC A s tag L F H locs → ((∀ b j : Nat, (tag b ≠ 19 ∨ j ≠ 0) → (tag b ≠ 19 ∨ j ≠ 1) → (tag b ≠ 23 ∨ j ≠ 2) → (tag b ≠ 23 ∨ j ≠ 3) → fld F b j = fld Fo b j) ∧ EF tag F Fo) → fld F p0 3 = .int z21182 → lv_has ls 2 [(0, .ref p0), (1, .ref p1)] → W p l e { frames := 2, cells := 0, slots := 0, locals := 45 } s m args below meth c H locs 0 0 Q (F0 m 32 ls []) := by
    intro z21182 F H locs ls rz21182 hT hfr qz21182 hl
    refine lv_aload_n hx hb dX2_keep_32 rfl (lv_at hl 0 rfl) ?_
    refine t_get (C := RX2) (T := TX2) (N := 5) X hT m0 g0 rfl rfl 0 (by decide) qw_103 inlX2 rfl dX2_keep_33 (fun v21183 hv21183 ov21183 => ?_)
    obtain ⟨b21184, rfl, mb21184, gb21184⟩ := okV_r ov21183
    have gb21184 : tag b21184 = 16 := tg_of gb21184
    refine lv_aload_n hx hb dX2_keep_36 rfl (lv_at hl 0 rfl) ?_
    refine t_get (C := RX2) (T := TX2) (N := 5) X hT m0 g0 rfl rfl 2 (by decide) qw_1431 inlX2 rfl dX2_keep_37 (fun v21185 hv21185 ov21185 => ?_)
    obtain ⟨z21186, rfl, rz21186⟩ := okV_i ov21185
    refine lv_aload_n hx hb dX2_keep_40 rfl (lv_at hl 0 rfl) ?_
    refine t_get (C := RX2) (T := TX2) (N := 5) X hT m0 g0 rfl rfl 3 (by decide) qw_461 inlX2 rfl dX2_keep_41 (fun v21187 hv21187 ov21187 => ?_)
    obtain rfl : v21187 = .int z21182 := hv21187.symm.trans qz21182
    refine lv_iadd hx hb dX2_keep_44 ?_
    refine lv_topi (fun z21188 ez21188 => ?_)
    have hz21188 : z21188.toInt = z21186.toInt + z21182.toInt := ar_add ez21188 (rfl : z21186.toInt = z21186.toInt) (rfl : z21182.toInt = z21182.toInt) (by omega) (by omega)
    have rz21188 : 0 ≤ z21188.toInt ∧ z21188.toInt ≤ 18 := by omega
    refine lv_bipush (v := 10) hx hb dX2_keep_45 (by decide) ?_
    refine lv_irem hx hb dX2_keep_47 (by decide) ?_
    refine lv_topi (fun z21189 ez21189 => ?_)
    have hz21189 : z21189.toInt = z21188.toInt % 10 := ar_rem ez21189 (rfl : z21188.toInt = z21188.toInt) (by decide : (10 : Int32).toInt = 10) (by omega) (by omega)
    have rz21189 : 0 ≤ z21189.toInt ∧ z21189.toInt ≤ 9 := by omega
    refine t_ald X hT mb21184 gb21184 rfl (by omega) dX2_keep_48 (fun b21190 mb21190 gb21190 => ?_)
    have gb21190 : tag b21190 = 19 := tg_of gb21190
    refine lv_aload_n hx hb dX2_keep_49 rfl (lv_at hl 1 rfl) ?_
    refine t_cVv (n := 1) (C := RX7) (T := TX7) (N := 7) (As := [.ref p1]) (rest := []) X hT (kt49_X7_copyFrom l G tag L F hT.2.2.2 b21190 p1 mb21190 gb21190 m1 g1) mb21190 gb21190 rfl rfl qw_1432 qw_450 qw_451 qw_22 qw_452 ⟨rfl, by decide +kernel, by decide +kernel, by decide +kernel⟩ ⟨Nat.le_of_ble_eq_true rfl, Nat.le_of_ble_eq_true rfl⟩ hl rfl rfl (Nat.le_of_ble_eq_true rfl) dX2_keep_50 ⟨Nat.le_of_ble_eq_true rfl, Nat.le_of_ble_eq_true rfl⟩ (fun F H locs hT hz21191 => ?_)
    have yz21191 := hz21191
    have qz21182 := (yz21191.1 _ 3 (Or.inr (by decide)) (Or.inr (by decide))).trans qz21182
    have hv21183 := (yz21191.1 _ 0 (Or.inl (by rw [g0]; decide)) (Or.inr (by decide))).trans hv21183
    have hv21185 := (yz21191.1 _ 2 (Or.inr (by decide)) (Or.inr (by decide))).trans hv21185
    have hfr : (∀ b j : Nat, (tag b ≠ 19 ∨ j ≠ 0) → (tag b ≠ 19 ∨ j ≠ 1) → (tag b ≠ 23 ∨ j ≠ 2) → (tag b ≠ 23 ∨ j ≠ 3) → fld F b j = fld Fo b j) ∧ EF tag F Fo := ⟨fun b j n19_0 n19_1 n23_2 n23_3 => (yz21191.1 b j n19_0 n19_1).trans (hfr.1 b j n19_0 n19_1 n23_2 n23_3), fun b j hb => (yz21191.2 b j hb).trans (hfr.2 b j hb)⟩
    refine lv_aload_n hx hb dX2_keep_53 rfl (lv_at hl 0 rfl) ?_
    refine lv_dup hx hb dX2_keep_54 rfl ?_
    refine t_get (C := RX2) (T := TX2) (N := 5) X hT m0 g0 rfl rfl 3 (by decide) qw_461 inlX2 rfl dX2_keep_55 (fun v21192 hv21192 ov21192 => ?_)
    obtain rfl : v21192 = .int z21182 := hv21192.symm.trans qz21182
    refine lv_iconst (v := 1) hx hb dX2_keep_58 (by decide) ?_
    refine lv_iadd hx hb dX2_keep_59 ?_
    refine lv_topi (fun z21193 ez21193 => ?_)
    have hz21193 : z21193.toInt = z21182.toInt + 1 := ar_add ez21193 (rfl : z21182.toInt = z21182.toInt) (by decide : (1 : Int32).toInt = 1) (by omega) (by omega)
    have rz21193 : 1 ≤ z21193.toInt ∧ z21193.toInt ≤ 10 := by omega
    refine t_put (C := RX2) (T := TX2) (N := 5) (v := .int z21193) X hT m0 g0 rfl tyX2 tyX2_ok nmX2 rfl 3 (by decide) qw_461 inlX2 rfl (by first | rfl | decide) (by first | rfl | decide) rfl (⟨_, rfl, (show 0 ≤ (z21193 : Int32).toInt from (by omega)), (show (z21193 : Int32).toInt ≤ 10 from (by omega))⟩) dX2_keep_60 (fun F H locs hT v21194 h1v21194 h2v21194 => ?_)
    have hv21183 := (h1v21194 _ _ (Or.inr (by decide))).trans hv21183
    have hv21185 := (h1v21194 _ _ (Or.inr (by decide))).trans hv21185
    have hfr : (∀ b j : Nat, (tag b ≠ 19 ∨ j ≠ 0) → (tag b ≠ 19 ∨ j ≠ 1) → (tag b ≠ 23 ∨ j ≠ 2) → (tag b ≠ 23 ∨ j ≠ 3) → fld F b j = fld Fo b j) ∧ EF tag F Fo := ⟨fun b j n19_0 n19_1 n23_2 n23_3 => (h1v21194 b j (fr_ne g0 n23_3)).trans (hfr.1 b j n19_0 n19_1 n23_2 n23_3), fun b j hb => (h2v21194 b j).trans (hfr.2 b j hb)⟩
    exact t_vret hQ X hT hfr (Nat.le_of_ble_eq_true rfl) (Nat.le_of_ble_eq_true rfl) dX2_keep_63
  refine lv_aload_n hx hb dX2_keep_0 rfl (lv_at hl 0 rfl) ?_
  refine t_get (C := RX2) (T := TX2) (N := 5) X hT m0 g0 rfl rfl 3 (by decide) qw_461 inlX2 rfl dX2_keep_1 (fun v21195 hv21195 ov21195 => ?_)
  obtain ⟨z21196, rfl, rz21196⟩ := okV_i ov21195
  refine lv_bipush (v := 10) hx hb dX2_keep_4 (by decide) ?_
  refine lv_icmp_ne (tgt := 32) hx hb dX2_keep_6 (by decide) (fun c21197 => ?_) (fun c21197 => ?_)
  · have w21198 := cv_ne (rfl : z21196.toInt = z21196.toInt) (by decide : (10 : Int32).toInt = 10) c21197
    exact K32 z21196 _ _ _ _ (by omega) hT hfr hv21195 (lv_sub hl [0, 1] rfl)
  · have w21199 := cv_eq (rfl : z21196.toInt = z21196.toInt) (by decide : (10 : Int32).toInt = 10) c21197
    refine lv_aload_n hx hb dX2_keep_9 rfl (lv_at hl 0 rfl) ?_
    refine lv_aload_n hx hb dX2_keep_10 rfl (lv_at hl 0 rfl) ?_
    refine t_get (C := RX2) (T := TX2) (N := 5) X hT m0 g0 rfl rfl 2 (by decide) qw_1431 inlX2 rfl dX2_keep_11 (fun v21200 hv21200 ov21200 => ?_)
    obtain ⟨z21201, rfl, rz21201⟩ := okV_i ov21200
    refine lv_iconst (v := 1) hx hb dX2_keep_14 (by decide) ?_
    refine lv_iadd hx hb dX2_keep_15 ?_
    refine lv_topi (fun z21202 ez21202 => ?_)
    have hz21202 : z21202.toInt = z21201.toInt + 1 := ar_add ez21202 (rfl : z21201.toInt = z21201.toInt) (by decide : (1 : Int32).toInt = 1) (by omega) (by omega)
    have rz21202 : 1 ≤ z21202.toInt ∧ z21202.toInt ≤ 10 := by omega
    refine lv_bipush (v := 10) hx hb dX2_keep_16 (by decide) ?_
    refine lv_irem hx hb dX2_keep_18 (by decide) ?_
    refine lv_topi (fun z21203 ez21203 => ?_)
    have hz21203 : z21203.toInt = z21202.toInt % 10 := ar_rem ez21203 (rfl : z21202.toInt = z21202.toInt) (by decide : (10 : Int32).toInt = 10) (by omega) (by omega)
    have rz21203 : 0 ≤ z21203.toInt ∧ z21203.toInt ≤ 9 := by omega
    refine t_put (C := RX2) (T := TX2) (N := 5) (v := .int z21203) X hT m0 g0 rfl tyX2 tyX2_ok nmX2 rfl 2 (by decide) qw_1431 inlX2 rfl (by first | rfl | decide) (by first | rfl | decide) rfl (⟨_, rfl, (show 0 ≤ (z21203 : Int32).toInt from (by omega)), (show (z21203 : Int32).toInt ≤ 9 from (by omega))⟩) dX2_keep_19 (fun F H locs hT v21204 h1v21204 h2v21204 => ?_)
    have hv21195 := (h1v21204 _ _ (Or.inr (by decide))).trans hv21195
    have hfr : (∀ b j : Nat, (tag b ≠ 19 ∨ j ≠ 0) → (tag b ≠ 19 ∨ j ≠ 1) → (tag b ≠ 23 ∨ j ≠ 2) → (tag b ≠ 23 ∨ j ≠ 3) → fld F b j = fld Fo b j) ∧ EF tag F Fo := ⟨fun b j n19_0 n19_1 n23_2 n23_3 => (h1v21204 b j (fr_ne g0 n23_2)).trans (hfr.1 b j n19_0 n19_1 n23_2 n23_3), fun b j hb => (h2v21204 b j).trans (hfr.2 b j hb)⟩
    refine lv_aload_n hx hb dX2_keep_22 rfl (lv_at hl 0 rfl) ?_
    refine lv_dup hx hb dX2_keep_23 rfl ?_
    refine t_get (C := RX2) (T := TX2) (N := 5) X hT m0 g0 rfl rfl 3 (by decide) qw_461 inlX2 rfl dX2_keep_24 (fun v21205 hv21205 ov21205 => ?_)
    obtain rfl : v21205 = .int z21196 := hv21205.symm.trans hv21195
    refine lv_iconst (v := 1) hx hb dX2_keep_27 (by decide) ?_
    refine lv_isub hx hb dX2_keep_28 ?_
    refine lv_topi (fun z21206 ez21206 => ?_)
    have hz21206 : z21206.toInt = z21196.toInt - 1 := ar_sub ez21206 (rfl : z21196.toInt = z21196.toInt) (by decide : (1 : Int32).toInt = 1) (by omega) (by omega)
    have rz21206 : 9 ≤ z21206.toInt ∧ z21206.toInt ≤ 9 := by omega
    refine t_put (C := RX2) (T := TX2) (N := 5) (v := .int z21206) X hT m0 g0 rfl tyX2 tyX2_ok nmX2 rfl 3 (by decide) qw_461 inlX2 rfl (by first | rfl | decide) (by first | rfl | decide) rfl (⟨_, rfl, (show 0 ≤ (z21206 : Int32).toInt from (by omega)), (show (z21206 : Int32).toInt ≤ 10 from (by omega))⟩) dX2_keep_29 (fun F H locs hT v21207 h1v21207 h2v21207 => ?_)
    have v21204 := (h1v21207 _ _ (Or.inr (by decide))).trans v21204
    have hfr : (∀ b j : Nat, (tag b ≠ 19 ∨ j ≠ 0) → (tag b ≠ 19 ∨ j ≠ 1) → (tag b ≠ 23 ∨ j ≠ 2) → (tag b ≠ 23 ∨ j ≠ 3) → fld F b j = fld Fo b j) ∧ EF tag F Fo := ⟨fun b j n19_0 n19_1 n23_2 n23_3 => (h1v21207 b j (fr_ne g0 n23_3)).trans (hfr.1 b j n19_0 n19_1 n23_2 n23_3), fun b j hb => (h2v21207 b j).trans (hfr.2 b j hb)⟩
    exact K32 z21206 _ _ _ _ (by omega) hT hfr v21207 (lv_sub hl [0, 1] rfl)
set_option maxHeartbeats 4000000 in
set_option maxRecDepth 100000 in
theorem kt67_X11_build (l : Launch) (G : KG) (tag : Nat → Nat) (L : List Nat) (Fo : Nat → va_E) (ho : okT G ttC tag L Fo) (p0 : Nat) (p1 : Int32) (p2 : Int32) (p3 : Int32) (p4 : Int32) (p5 : Int32) (m0 : p0 ∈ L) (g0 : tag p0 = 26) : TMi l yX11_build cX11_build 8 (some .int) { frames := 3, cells := 0, slots := 0, locals := 80 } G ttC tag L Fo [.ref p0, .int p1, .int p2, .int p3, .int p4, .int p5] (fun r F1 => ((-2147483648) ≤ r.toInt ∧ r.toInt ≤ 2147483647) ∧ ((∀ b j : Nat, (tag b ≠ 19 ∨ j ≠ 0) → (tag b ≠ 19 ∨ j ≠ 1) → (tag b ≠ 23 ∨ j ≠ 2) → (tag b ≠ 23 ∨ j ≠ 3) → (tag b ≠ 26 ∨ j ≠ 13) → fld F1 b j = fld Fo b j) ∧ EF tag F1 Fo)) := by
  refine t_bodyi (y := yX11_build) (cd := cX11_build) (mL := 8) (rt := (some .int)) (rm := { frames := 3, cells := 0, slots := 0, locals := 80 }) (av := [.ref p0, .int p1, .int p2, .int p3, .int p4, .int p5]) (by decide) (Nat.le_of_ble_eq_true rfl) ho ?_
  intro p e s m args below meth c ls A Q hQ X hT hl
  have hx := X.1.1
  have hb := X.1.2.1
  have hl : lv_has ls 8 [(0, .ref p0), (1, .int p1), (2, .int p2), (3, .int p3), (4, .int p4), (5, .int p5)] := hl
  have rp1 := rg_all p1
  have rp2 := rg_all p2
  have rp3 := rg_all p3
  have rp4 := rg_all p4
  have rp5 := rg_all p5
  obtain ⟨F, hFo⟩ : ∃ F : Nat → va_E, F = Fo := ⟨_, rfl⟩
  rw [← hFo] at hT
  have hfr : (∀ b j : Nat, (tag b ≠ 19 ∨ j ≠ 0) → (tag b ≠ 19 ∨ j ≠ 1) → (tag b ≠ 23 ∨ j ≠ 2) → (tag b ≠ 23 ∨ j ≠ 3) → (tag b ≠ 26 ∨ j ≠ 13) → fld F b j = fld Fo b j) ∧ EF tag F Fo := by
    rw [hFo]
    exact ⟨by intros; rfl, fun _ _ _ => rfl⟩
  have K25 : ∀  (F : Nat → va_E) (H : Heap) (locs : List Loc) (ls : Array Slot), TH G ttC A s tag L F H locs → ((∀ b j : Nat, (tag b ≠ 19 ∨ j ≠ 0) → (tag b ≠ 19 ∨ j ≠ 1) → (tag b ≠ 23 ∨ j ≠ 2) → (tag b ≠ 23 ∨ j ≠ 3) → (tag b ≠ 26 ∨ j ≠ 13) → fld F b j = fld Fo b j) ∧ EF tag F Fo) → lv_has ls 8 [(0, .ref p0), (1, .int p1), (2, .int p2), (3, .int p3), (4, .int p4), (5, .int p5)] → W p l e { frames := 3, cells := 0, slots := 0, locals := 80 } s m args below meth c H locs 0 0 Q (F0 m 25 ls []) := by
    intro F H locs ls hT hfr hl
    refine lv_aload_n hx hb dX11_build_25 rfl (lv_at hl 0 rfl) ?_
    refine lv_iconst (v := 1) hx hb dX11_build_26 (by decide) ?_
    refine t_cVi (n := 1) (C := RX11) (T := TX11) (N := 16) (As := [.int 1]) (rest := []) X hT (kt63_X11_refuse l G tag L F hT.2.2.2 p0 1 m0 g0) m0 g0 rfl rfl qw_152 qw_153 qw_154 qw_2 qw_155 ⟨rfl, by decide +kernel, by decide +kernel, by decide +kernel⟩ ⟨Nat.le_of_ble_eq_true rfl, Nat.le_of_ble_eq_true rfl⟩ hl rfl rfl (Nat.le_of_ble_eq_true rfl) dX11_build_27 ⟨Nat.le_of_ble_eq_true rfl, Nat.le_of_ble_eq_true rfl⟩ (fun z22073 F H locs hT hz22073 => ?_)
    obtain ⟨hz22073, yz22073⟩ := hz22073
    have hfr : (∀ b j : Nat, (tag b ≠ 19 ∨ j ≠ 0) → (tag b ≠ 19 ∨ j ≠ 1) → (tag b ≠ 23 ∨ j ≠ 2) → (tag b ≠ 23 ∨ j ≠ 3) → (tag b ≠ 26 ∨ j ≠ 13) → fld F b j = fld Fo b j) ∧ EF tag F Fo := ⟨fun b j n19_0 n19_1 n23_2 n23_3 n26_13 => (yz22073.1 b j n26_13).trans (hfr.1 b j n19_0 n19_1 n23_2 n23_3 n26_13), fun b j hb => (yz22073.2 b j hb).trans (hfr.2 b j hb)⟩
    exact t_iret hQ X hT (⟨rg_all _, hfr⟩) (Nat.le_of_ble_eq_true rfl) (Nat.le_of_ble_eq_true rfl) dX11_build_30
  have K85 : ∀ (z22076 : Int32) (F : Nat → va_E) (H : Heap) (locs : List Loc) (ls : Array Slot), (1 ≤ z22076.toInt ∧ z22076.toInt ≤ 6) → (0 ≤ p1.toInt ∧ p1.toInt ≤ 3) → (0 ≤ p3.toInt ∧ p3.toInt ≤ 3) → TH G ttC A s tag L F H locs → ((∀ b j : Nat, (tag b ≠ 19 ∨ j ≠ 0) → (tag b ≠ 19 ∨ j ≠ 1) → (tag b ≠ 23 ∨ j ≠ 2) → (tag b ≠ 23 ∨ j ≠ 3) → (tag b ≠ 26 ∨ j ≠ 13) → fld F b j = fld Fo b j) ∧ EF tag F Fo) → lv_has ls 8 [(0, .ref p0), (1, .int p1), (2, .int p2), (3, .int p3), (4, .int p4), (5, .int p5), (6, .int z22076)] → W p l e { frames := 3, cells := 0, slots := 0, locals := 80 } s m args below meth c H locs 0 0 Q (F0 m 85 ls []) := by
    intro z22076 F H locs ls rz22076 r9s22074 r9s22075 hT hfr hl
    refine lv_aload_n hx hb dX11_build_85 rfl (lv_at hl 0 rfl) ?_
    refine lv_iconst (v := 2) hx hb dX11_build_86 (by decide) ?_
    refine t_cVi (n := 1) (C := RX11) (T := TX11) (N := 16) (As := [.int 2]) (rest := []) X hT (kt63_X11_refuse l G tag L F hT.2.2.2 p0 2 m0 g0) m0 g0 rfl rfl qw_152 qw_153 qw_154 qw_2 qw_155 ⟨rfl, by decide +kernel, by decide +kernel, by decide +kernel⟩ ⟨Nat.le_of_ble_eq_true rfl, Nat.le_of_ble_eq_true rfl⟩ hl rfl rfl (Nat.le_of_ble_eq_true rfl) dX11_build_87 ⟨Nat.le_of_ble_eq_true rfl, Nat.le_of_ble_eq_true rfl⟩ (fun z22077 F H locs hT hz22077 => ?_)
    obtain ⟨hz22077, yz22077⟩ := hz22077
    have hfr : (∀ b j : Nat, (tag b ≠ 19 ∨ j ≠ 0) → (tag b ≠ 19 ∨ j ≠ 1) → (tag b ≠ 23 ∨ j ≠ 2) → (tag b ≠ 23 ∨ j ≠ 3) → (tag b ≠ 26 ∨ j ≠ 13) → fld F b j = fld Fo b j) ∧ EF tag F Fo := ⟨fun b j n19_0 n19_1 n23_2 n23_3 n26_13 => (yz22077.1 b j n26_13).trans (hfr.1 b j n19_0 n19_1 n23_2 n23_3 n26_13), fun b j hb => (yz22077.2 b j hb).trans (hfr.2 b j hb)⟩
    exact t_iret hQ X hT (⟨rg_all _, hfr⟩) (Nat.le_of_ble_eq_true rfl) (Nat.le_of_ble_eq_true rfl) dX11_build_90
  have K126 : ∀ (z22082 : Int32) (F : Nat → va_E) (H : Heap) (locs : List Loc) (ls : Array Slot), (1 ≤ z22082.toInt ∧ z22082.toInt ≤ 6) → (0 ≤ p1.toInt ∧ p1.toInt ≤ 3) → (0 ≤ p3.toInt ∧ p3.toInt ≤ 3) → (0 ≤ p4.toInt ∧ p4.toInt ≤ 10) → (0 ≤ p5.toInt ∧ p5.toInt ≤ 99) → TH G ttC A s tag L F H locs → ((∀ b j : Nat, (tag b ≠ 19 ∨ j ≠ 0) → (tag b ≠ 19 ∨ j ≠ 1) → (tag b ≠ 23 ∨ j ≠ 2) → (tag b ≠ 23 ∨ j ≠ 3) → (tag b ≠ 26 ∨ j ≠ 13) → fld F b j = fld Fo b j) ∧ EF tag F Fo) → lv_has ls 8 [(0, .ref p0), (1, .int p1), (2, .int p2), (3, .int p3), (4, .int p4), (5, .int p5), (6, .int z22082)] → W p l e { frames := 3, cells := 0, slots := 0, locals := 80 } s m args below meth c H locs 0 0 Q (F0 m 126 ls []) := by
    intro z22082 F H locs ls rz22082 r9s22078 r9s22079 r9s22080 r9s22081 hT hfr hl
    refine lv_aload_n hx hb dX11_build_126 rfl (lv_at hl 0 rfl) ?_
    refine lv_iconst (v := 5) hx hb dX11_build_127 (by decide) ?_
    refine t_cVi (n := 1) (C := RX11) (T := TX11) (N := 16) (As := [.int 5]) (rest := []) X hT (kt63_X11_refuse l G tag L F hT.2.2.2 p0 5 m0 g0) m0 g0 rfl rfl qw_152 qw_153 qw_154 qw_2 qw_155 ⟨rfl, by decide +kernel, by decide +kernel, by decide +kernel⟩ ⟨Nat.le_of_ble_eq_true rfl, Nat.le_of_ble_eq_true rfl⟩ hl rfl rfl (Nat.le_of_ble_eq_true rfl) dX11_build_128 ⟨Nat.le_of_ble_eq_true rfl, Nat.le_of_ble_eq_true rfl⟩ (fun z22083 F H locs hT hz22083 => ?_)
    obtain ⟨hz22083, yz22083⟩ := hz22083
    have hfr : (∀ b j : Nat, (tag b ≠ 19 ∨ j ≠ 0) → (tag b ≠ 19 ∨ j ≠ 1) → (tag b ≠ 23 ∨ j ≠ 2) → (tag b ≠ 23 ∨ j ≠ 3) → (tag b ≠ 26 ∨ j ≠ 13) → fld F b j = fld Fo b j) ∧ EF tag F Fo := ⟨fun b j n19_0 n19_1 n23_2 n23_3 n26_13 => (yz22083.1 b j n26_13).trans (hfr.1 b j n19_0 n19_1 n23_2 n23_3 n26_13), fun b j hb => (yz22083.2 b j hb).trans (hfr.2 b j hb)⟩
    exact t_iret hQ X hT (⟨rg_all _, hfr⟩) (Nat.le_of_ble_eq_true rfl) (Nat.le_of_ble_eq_true rfl) dX11_build_131
  refine lv_aload_n hx hb dX11_build_0 rfl (lv_at hl 0 rfl) ?_
  refine lv_iload_n hx hb dX11_build_1 rfl (lv_at hl 1 rfl) ?_
  refine t_cVi (n := 1) (C := RX11) (T := TX11) (N := 16) (As := [.int p1]) (rest := []) X hT (kt61_X11_isHouse l G tag L F hT.2.2.2 p0 p1 m0 g0) m0 g0 rfl rfl qw_770 qw_771 qw_772 qw_2 qw_773 ⟨rfl, by decide +kernel, by decide +kernel, by decide +kernel⟩ ⟨Nat.le_of_ble_eq_true rfl, Nat.le_of_ble_eq_true rfl⟩ hl rfl rfl (Nat.le_of_ble_eq_true rfl) dX11_build_2 ⟨Nat.le_of_ble_eq_true rfl, Nat.le_of_ble_eq_true rfl⟩ (fun z22084 F9 H locs hT hz22084 => ?_)
  obtain ⟨fz22084, hz22084⟩ := hz22084
  rw [fz22084] at hT
  obtain ⟨hz22084, iz22084⟩ := hz22084
  refine lv_if_eq (tgt := 25) hx hb dX11_build_5 (by decide) (fun c22085 => ?_) (fun c22085 => ?_)
  · have w22086 := cv_eq (rfl : z22084.toInt = z22084.toInt) (by decide : (0 : Int32).toInt = 0) c22085
    exact K25  _ _ _ _  hT hfr  (lv_sub hl [0, 1, 2, 3, 4, 5] rfl)
  · have w22087 := cv_ne (rfl : z22084.toInt = z22084.toInt) (by decide : (0 : Int32).toInt = 0) c22085
    have w22088 := (fun h => (iz22084 h)) (by omega)
    refine lv_aload_n hx hb dX11_build_8 rfl (lv_at hl 0 rfl) ?_
    refine lv_iload_n hx hb dX11_build_9 rfl (lv_at hl 2 rfl) ?_
    refine t_cVi (n := 1) (C := RX11) (T := TX11) (N := 16) (As := [.int p2]) (rest := []) X hT (kt65_X11_isStone l G tag L F hT.2.2.2 p0 p2 m0 g0) m0 g0 rfl rfl qw_954 qw_955 qw_956 qw_2 qw_957 ⟨rfl, by decide +kernel, by decide +kernel, by decide +kernel⟩ ⟨Nat.le_of_ble_eq_true rfl, Nat.le_of_ble_eq_true rfl⟩ hl rfl rfl (Nat.le_of_ble_eq_true rfl) dX11_build_10 ⟨Nat.le_of_ble_eq_true rfl, Nat.le_of_ble_eq_true rfl⟩ (fun z22089 F9 H locs hT hz22089 => ?_)
    obtain ⟨fz22089, hz22089⟩ := hz22089
    rw [fz22089] at hT
    refine lv_if_eq (tgt := 25) hx hb dX11_build_13 (by decide) (fun c22090 => ?_) (fun c22090 => ?_)
    · have w22091 := cv_eq (rfl : z22089.toInt = z22089.toInt) (by decide : (0 : Int32).toInt = 0) c22090
      exact K25  _ _ _ _  hT hfr  (lv_sub hl [0, 1, 2, 3, 4, 5] rfl)
    · have w22092 := cv_ne (rfl : z22089.toInt = z22089.toInt) (by decide : (0 : Int32).toInt = 0) c22090
      refine lv_iload_n hx hb dX11_build_16 rfl (lv_at hl 3 rfl) ?_
      refine lv_if_lt (tgt := 25) hx hb dX11_build_17 (by decide) (fun c22093 => ?_) (fun c22093 => ?_)
      · have w22094 := cv_lt (rfl : p3.toInt = p3.toInt) (by decide : (0 : Int32).toInt = 0) c22093
        exact K25  _ _ _ _  hT hfr  (lv_sub hl [0, 1, 2, 3, 4, 5] rfl)
      · have w22095 := cv_nlt (rfl : p3.toInt = p3.toInt) (by decide : (0 : Int32).toInt = 0) c22093
        refine lv_iload_n hx hb dX11_build_20 rfl (lv_at hl 3 rfl) ?_
        refine lv_iconst (v := 4) hx hb dX11_build_21 (by decide) ?_
        refine lv_icmp_lt (tgt := 31) hx hb dX11_build_22 (by decide) (fun c22096 => ?_) (fun c22096 => ?_)
        · have w22097 := cv_lt (rfl : p3.toInt = p3.toInt) (by decide : (4 : Int32).toInt = 4) c22096
          refine lv_aload_n hx hb dX11_build_31 rfl (lv_at hl 0 rfl) ?_
          refine t_get (C := RX11) (T := TX11) (N := 16) X hT m0 g0 rfl rfl 5 (by decide) qw_23 inlX11 rfl dX11_build_32 (fun v22098 hv22098 ov22098 => ?_)
          obtain ⟨b22099, rfl, mb22099, gb22099⟩ := okV_r ov22098
          have gb22099 : tag b22099 = 19 := tg_of gb22099
          refine t_get (C := RX7) (T := TX7) (N := 7) X hT mb22099 gb22099 rfl rfl 2 (by decide) qw_766 inlX7 rfl dX11_build_35 (fun v22100 hv22100 ov22100 => ?_)
          obtain ⟨b22101, rfl, mb22101, gb22101⟩ := okV_r ov22100
          have gb22101 : tag b22101 = 8 := tg_of gb22101
          refine lv_iload_n hx hb dX11_build_38 rfl (lv_at hl 1 rfl) ?_
          refine t_ild X hT mb22101 gb22101 rfl (by omega) dX11_build_39 (fun z22102 vz22102 rz22102 => ?_)
          have rz22102 : 0 ≤ z22102.toInt ∧ z22102.toInt ≤ 6 := rz22102
          refine lv_iconst (v := 1) hx hb dX11_build_40 (by decide) ?_
          refine lv_iadd hx hb dX11_build_41 ?_
          refine lv_topi (fun z22103 ez22103 => ?_)
          have hz22103 : z22103.toInt = z22102.toInt + 1 := ar_add ez22103 (rfl : z22102.toInt = z22102.toInt) (by decide : (1 : Int32).toInt = 1) (by omega) (by omega)
          have rz22103 : 1 ≤ z22103.toInt ∧ z22103.toInt ≤ 7 := by omega
          refine lv_istore (lv' := [(6, .int z22103), (0, .ref p0), (1, .int p1), (2, .int p2), (3, .int p3), (4, .int p4), (5, .int p5)]) hx hb dX11_build_42 hl (by decide) rfl (fun ls hl => ?_)
          refine lv_iload hx hb dX11_build_44 (lv_at hl 0 rfl) ?_
          refine lv_bipush (v := 6) hx hb dX11_build_46 (by decide) ?_
          refine lv_icmp_le (tgt := 57) hx hb dX11_build_48 (by decide) (fun c22104 => ?_) (fun c22104 => ?_)
          · have w22105 := cv_le (rfl : z22103.toInt = z22103.toInt) (by decide : (6 : Int32).toInt = 6) c22104
            refine lv_iload hx hb dX11_build_57 (lv_at hl 5 rfl) ?_
            refine lv_if_lt (tgt := 85) hx hb dX11_build_59 (by decide) (fun c22106 => ?_) (fun c22106 => ?_)
            · have w22107 := cv_lt (rfl : p4.toInt = p4.toInt) (by decide : (0 : Int32).toInt = 0) c22106
              exact K85 z22103 _ _ _ _ (by omega) (by omega) (by omega) hT hfr  (lv_sub hl [1, 2, 3, 4, 5, 6, 0] rfl)
            · have w22108 := cv_nlt (rfl : p4.toInt = p4.toInt) (by decide : (0 : Int32).toInt = 0) c22106
              refine lv_iload hx hb dX11_build_62 (lv_at hl 5 rfl) ?_
              refine lv_iconst (v := 2) hx hb dX11_build_64 (by decide) ?_
              refine lv_iload hx hb dX11_build_65 (lv_at hl 0 rfl) ?_
              refine lv_imul hx hb dX11_build_67 ?_
              refine lv_topi (fun z22109 ez22109 => ?_)
              have hz22109 : z22109.toInt = 2 * z22103.toInt := ar_mul ez22109 (by decide : (2 : Int32).toInt = 2) (rfl : z22103.toInt = z22103.toInt) (by omega) (by omega)
              have rz22109 : 2 ≤ z22109.toInt ∧ z22109.toInt ≤ 12 := by omega
              refine lv_iconst (v := 2) hx hb dX11_build_68 (by decide) ?_
              refine lv_isub hx hb dX11_build_69 ?_
              refine lv_topi (fun z22110 ez22110 => ?_)
              have hz22110 : z22110.toInt = z22109.toInt - 2 := ar_sub ez22110 (rfl : z22109.toInt = z22109.toInt) (by decide : (2 : Int32).toInt = 2) (by omega) (by omega)
              have rz22110 : 0 ≤ z22110.toInt ∧ z22110.toInt ≤ 10 := by omega
              refine lv_icmp_gt (tgt := 85) hx hb dX11_build_70 (by decide) (fun c22111 => ?_) (fun c22111 => ?_)
              · have w22112 := cv_lt (rfl : z22110.toInt = z22110.toInt) (rfl : p4.toInt = p4.toInt) c22111
                exact K85 z22103 _ _ _ _ (by omega) (by omega) (by omega) hT hfr  (lv_sub hl [1, 2, 3, 4, 5, 6, 0] rfl)
              · have w22113 := cv_nlt (rfl : z22110.toInt = z22110.toInt) (rfl : p4.toInt = p4.toInt) c22111
                refine lv_iload hx hb dX11_build_73 (lv_at hl 6 rfl) ?_
                refine lv_if_lt (tgt := 85) hx hb dX11_build_75 (by decide) (fun c22114 => ?_) (fun c22114 => ?_)
                · have w22115 := cv_lt (rfl : p5.toInt = p5.toInt) (by decide : (0 : Int32).toInt = 0) c22114
                  exact K85 z22103 _ _ _ _ (by omega) (by omega) (by omega) hT hfr  (lv_sub hl [1, 2, 3, 4, 5, 6, 0] rfl)
                · have w22116 := cv_nlt (rfl : p5.toInt = p5.toInt) (by decide : (0 : Int32).toInt = 0) c22114
                  refine lv_iload hx hb dX11_build_78 (lv_at hl 6 rfl) ?_
                  refine lv_bipush (v := 99) hx hb dX11_build_80 (by decide) ?_
                  refine lv_icmp_le (tgt := 91) hx hb dX11_build_82 (by decide) (fun c22117 => ?_) (fun c22117 => ?_)
                  · have w22118 := cv_le (rfl : p5.toInt = p5.toInt) (by decide : (99 : Int32).toInt = 99) c22117
                    refine lv_aload_n hx hb dX11_build_91 rfl (lv_at hl 1 rfl) ?_
                    refine t_get (C := RX11) (T := TX11) (N := 16) X hT m0 g0 rfl rfl 3 (by decide) qw_18 inlX11 rfl dX11_build_92 (fun v22119 hv22119 ov22119 => ?_)
                    obtain ⟨b22120, rfl, mb22120, gb22120⟩ := okV_r ov22119
                    have gb22120 : tag b22120 = 18 := tg_of gb22120
                    refine lv_aload_n hx hb dX11_build_95 rfl (lv_at hl 1 rfl) ?_
                    refine t_get (C := RX11) (T := TX11) (N := 16) X hT m0 g0 rfl rfl 5 (by decide) qw_23 inlX11 rfl dX11_build_96 (fun v22121 hv22121 ov22121 => ?_)
                    obtain rfl : v22121 = .ref b22099 := hv22121.symm.trans hv22098
                    refine lv_iload_n hx hb dX11_build_99 rfl (lv_at hl 2 rfl) ?_
                    refine t_cSi (n := 3) (As := [.ref b22120, .ref b22099, .int p1]) (rest := []) X hT (kt31_X6_isFit l G tag L F hT.2.2.2 b22120 b22099 p1 mb22120 gb22120 mb22099 gb22099 (by omega)) qw_904 qw_403 qw_380 qw_404 ⟨by decide +kernel, by decide +kernel, by decide +kernel⟩ ⟨Nat.le_of_ble_eq_true rfl, Nat.le_of_ble_eq_true rfl⟩ hl rfl rfl (Nat.le_of_ble_eq_true rfl) dX11_build_100 ⟨Nat.le_of_ble_eq_true rfl, Nat.le_of_ble_eq_true rfl⟩ (fun z22122 F9 H locs hT hz22122 => ?_)
                    obtain ⟨fz22122, hz22122⟩ := hz22122
                    rw [fz22122] at hT
                    refine lv_if_eq (tgt := 126) hx hb dX11_build_103 (by decide) (fun c22123 => ?_) (fun c22123 => ?_)
                    · have w22124 := cv_eq (rfl : z22122.toInt = z22122.toInt) (by decide : (0 : Int32).toInt = 0) c22123
                      exact K126 z22103 _ _ _ _ (by omega) (by omega) (by omega) (by omega) (by omega) hT hfr  (lv_sub hl [1, 2, 3, 4, 5, 6, 0] rfl)
                    · have w22125 := cv_ne (rfl : z22122.toInt = z22122.toInt) (by decide : (0 : Int32).toInt = 0) c22123
                      refine lv_aload_n hx hb dX11_build_106 rfl (lv_at hl 1 rfl) ?_
                      refine t_get (C := RX11) (T := TX11) (N := 16) X hT m0 g0 rfl rfl 3 (by decide) qw_18 inlX11 rfl dX11_build_107 (fun v22126 hv22126 ov22126 => ?_)
                      obtain rfl : v22126 = .ref b22120 := hv22126.symm.trans hv22119
                      refine lv_aload_n hx hb dX11_build_110 rfl (lv_at hl 1 rfl) ?_
                      refine t_get (C := RX11) (T := TX11) (N := 16) X hT m0 g0 rfl rfl 5 (by decide) qw_23 inlX11 rfl dX11_build_111 (fun v22127 hv22127 ov22127 => ?_)
                      obtain rfl : v22127 = .ref b22099 := hv22127.symm.trans hv22098
                      refine lv_iload_n hx hb dX11_build_114 rfl (lv_at hl 2 rfl) ?_
                      refine lv_iload hx hb dX11_build_115 (lv_at hl 0 rfl) ?_
                      refine lv_iload_n hx hb dX11_build_117 rfl (lv_at hl 4 rfl) ?_
                      refine lv_iload hx hb dX11_build_118 (lv_at hl 5 rfl) ?_
                      refine t_cSi (n := 6) (As := [.ref b22120, .ref b22099, .int p1, .int z22103, .int p3, .int p4]) (rest := []) X hT (kt43_X6_isFrontFree l G tag L F hT.2.2.2 b22120 b22099 p1 z22103 p3 p4 mb22120 gb22120 mb22099 gb22099 (by omega) (by omega)) qw_1445 qw_782 qw_380 qw_783 ⟨by decide +kernel, by decide +kernel, by decide +kernel⟩ ⟨Nat.le_of_ble_eq_true rfl, Nat.le_of_ble_eq_true rfl⟩ hl rfl rfl (Nat.le_of_ble_eq_true rfl) dX11_build_120 ⟨Nat.le_of_ble_eq_true rfl, Nat.le_of_ble_eq_true rfl⟩ (fun z22128 F9 H locs hT hz22128 => ?_)
                      obtain ⟨fz22128, hz22128⟩ := hz22128
                      rw [fz22128] at hT
                      refine lv_if_ne (tgt := 132) hx hb dX11_build_123 (by decide) (fun c22129 => ?_) (fun c22129 => ?_)
                      · have w22130 := cv_ne (rfl : z22128.toInt = z22128.toInt) (by decide : (0 : Int32).toInt = 0) c22129
                        refine lv_aload_n hx hb dX11_build_132 rfl (lv_at hl 1 rfl) ?_
                        refine t_get (C := RX11) (T := TX11) (N := 16) X hT m0 g0 rfl rfl 3 (by decide) qw_18 inlX11 rfl dX11_build_133 (fun v22131 hv22131 ov22131 => ?_)
                        obtain rfl : v22131 = .ref b22120 := hv22131.symm.trans hv22119
                        refine lv_aload_n hx hb dX11_build_136 rfl (lv_at hl 1 rfl) ?_
                        refine t_get (C := RX11) (T := TX11) (N := 16) X hT m0 g0 rfl rfl 5 (by decide) qw_23 inlX11 rfl dX11_build_137 (fun v22132 hv22132 ov22132 => ?_)
                        obtain rfl : v22132 = .ref b22099 := hv22132.symm.trans hv22098
                        refine lv_iload_n hx hb dX11_build_140 rfl (lv_at hl 2 rfl) ?_
                        refine lv_iload_n hx hb dX11_build_141 rfl (lv_at hl 3 rfl) ?_
                        refine t_cSi (n := 4) (As := [.ref b22120, .ref b22099, .int p1, .int p2]) (rest := []) X hT (kt33_X6_priceOf l G tag L F hT.2.2.2 b22120 b22099 p1 p2 mb22120 gb22120 mb22099 gb22099 (by omega)) qw_959 qw_960 qw_380 qw_961 ⟨by decide +kernel, by decide +kernel, by decide +kernel⟩ ⟨Nat.le_of_ble_eq_true rfl, Nat.le_of_ble_eq_true rfl⟩ hl rfl rfl (Nat.le_of_ble_eq_true rfl) dX11_build_142 ⟨Nat.le_of_ble_eq_true rfl, Nat.le_of_ble_eq_true rfl⟩ (fun z22133 F9 H locs hT hz22133 => ?_)
                        obtain ⟨fz22133, hz22133⟩ := hz22133
                        rw [fz22133] at hT
                        refine lv_istore (lv' := [(7, .int z22133), (6, .int z22103), (0, .ref p0), (1, .int p1), (2, .int p2), (3, .int p3), (4, .int p4), (5, .int p5)]) hx hb dX11_build_145 hl (by decide) rfl (fun ls hl => ?_)
                        refine lv_iload hx hb dX11_build_147 (lv_at hl 0 rfl) ?_
                        refine lv_aload_n hx hb dX11_build_149 rfl (lv_at hl 2 rfl) ?_
                        refine t_get (C := RX11) (T := TX11) (N := 16) X hT m0 g0 rfl rfl 5 (by decide) qw_23 inlX11 rfl dX11_build_150 (fun v22134 hv22134 ov22134 => ?_)
                        obtain rfl : v22134 = .ref b22099 := hv22134.symm.trans hv22098
                        refine t_get (C := RX7) (T := TX7) (N := 7) X hT mb22099 gb22099 rfl rfl 4 (by decide) qw_768 inlX7 rfl dX11_build_153 (fun v22135 hv22135 ov22135 => ?_)
                        obtain ⟨b22136, rfl, mb22136, gb22136⟩ := okV_r ov22135
                        have gb22136 : tag b22136 = 5 := tg_of gb22136
                        refine lv_iload_n hx hb dX11_build_156 rfl (lv_at hl 3 rfl) ?_
                        refine t_ild X hT mb22136 gb22136 rfl (by omega) dX11_build_157 (fun z22137 vz22137 rz22137 => ?_)
                        have rz22137 : (-2147483648) ≤ z22137.toInt ∧ z22137.toInt ≤ 2147483647 := rz22137
                        refine lv_icmp_le (tgt := 168) hx hb dX11_build_158 (by decide) (fun c22138 => ?_) (fun c22138 => ?_)
                        · have w22139 := cv_le (rfl : z22133.toInt = z22133.toInt) (rfl : z22137.toInt = z22137.toInt) c22138
                          refine lv_aload_n hx hb dX11_build_168 rfl (lv_at hl 2 rfl) ?_
                          refine t_get (C := RX11) (T := TX11) (N := 16) X hT m0 g0 rfl rfl 12 (by decide) qw_45 inlX11 rfl dX11_build_169 (fun v22140 hv22140 ov22140 => ?_)
                          obtain ⟨b22141, rfl, mb22141, gb22141⟩ := okV_r ov22140
                          have gb22141 : tag b22141 = 23 := tg_of gb22141
                          refine lv_aload_n hx hb dX11_build_172 rfl (lv_at hl 2 rfl) ?_
                          refine t_get (C := RX11) (T := TX11) (N := 16) X hT m0 g0 rfl rfl 5 (by decide) qw_23 inlX11 rfl dX11_build_173 (fun v22142 hv22142 ov22142 => ?_)
                          obtain rfl : v22142 = .ref b22099 := hv22142.symm.trans hv22098
                          refine t_cVv (n := 1) (C := RX2) (T := TX2) (N := 5) (As := [.ref b22099]) (rest := []) X hT (kt66_X2_keep l G tag L F hT.2.2.2 b22141 b22099 mb22141 gb22141 mb22099 gb22099) mb22141 gb22141 rfl rfl qw_1427 qw_1428 qw_1429 qw_44 qw_1430 ⟨rfl, by decide +kernel, by decide +kernel, by decide +kernel⟩ ⟨Nat.le_of_ble_eq_true rfl, Nat.le_of_ble_eq_true rfl⟩ hl rfl rfl (Nat.le_of_ble_eq_true rfl) dX11_build_176 ⟨Nat.le_of_ble_eq_true rfl, Nat.le_of_ble_eq_true rfl⟩ (fun F H locs hT hz22143 => ?_)
                          have yz22143 := hz22143
                          have hv22098 := (yz22143.1 _ 5 (Or.inr (by decide)) (Or.inr (by decide)) (Or.inr (by decide)) (Or.inr (by decide))).trans hv22098
                          have hv22100 := (yz22143.1 _ 2 (Or.inr (by decide)) (Or.inr (by decide)) (Or.inl (by rw [gb22099]; decide)) (Or.inr (by decide))).trans hv22100
                          have hv22119 := (yz22143.1 _ 3 (Or.inr (by decide)) (Or.inr (by decide)) (Or.inr (by decide)) (Or.inl (by rw [g0]; decide))).trans hv22119
                          have hv22135 := (yz22143.1 _ 4 (Or.inr (by decide)) (Or.inr (by decide)) (Or.inr (by decide)) (Or.inr (by decide))).trans hv22135
                          have hv22140 := (yz22143.1 _ 12 (Or.inr (by decide)) (Or.inr (by decide)) (Or.inr (by decide)) (Or.inr (by decide))).trans hv22140
                          have hfr : (∀ b j : Nat, (tag b ≠ 19 ∨ j ≠ 0) → (tag b ≠ 19 ∨ j ≠ 1) → (tag b ≠ 23 ∨ j ≠ 2) → (tag b ≠ 23 ∨ j ≠ 3) → (tag b ≠ 26 ∨ j ≠ 13) → fld F b j = fld Fo b j) ∧ EF tag F Fo := ⟨fun b j n19_0 n19_1 n23_2 n23_3 n26_13 => (yz22143.1 b j n19_0 n19_1 n23_2 n23_3).trans (hfr.1 b j n19_0 n19_1 n23_2 n23_3 n26_13), fun b j hb => (yz22143.2 b j hb).trans (hfr.2 b j hb)⟩
                          refine lv_aload_n hx hb dX11_build_179 rfl (lv_at hl 2 rfl) ?_
                          refine t_get (C := RX11) (T := TX11) (N := 16) X hT m0 g0 rfl rfl 5 (by decide) qw_23 inlX11 rfl dX11_build_180 (fun v22144 hv22144 ov22144 => ?_)
                          obtain rfl : v22144 = .ref b22099 := hv22144.symm.trans hv22098
                          refine t_get (C := RX7) (T := TX7) (N := 7) X hT mb22099 gb22099 rfl rfl 4 (by decide) qw_768 inlX7 rfl dX11_build_183 (fun v22145 hv22145 ov22145 => ?_)
                          obtain rfl : v22145 = .ref b22136 := hv22145.symm.trans hv22135
                          refine lv_iload_n hx hb dX11_build_186 rfl (lv_at hl 3 rfl) ?_
                          refine lv_dup2_11 hx hb dX11_build_187 rfl rfl ?_
                          refine t_ild X hT mb22136 gb22136 rfl (by omega) dX11_build_188 (fun z22146 vz22146 rz22146 => ?_)
                          have rz22146 : (-2147483648) ≤ z22146.toInt ∧ z22146.toInt ≤ 2147483647 := rz22146
                          refine lv_iload hx hb dX11_build_189 (lv_at hl 0 rfl) ?_
                          refine lv_isub hx hb dX11_build_191 ?_
                          refine lv_topi (fun z22147 ez22147 => ?_)
                          have rz22147 := rg_all z22147
                          refine t_ist X hT mb22136 gb22136 rfl (by omega) (show (-2147483648) ≤ (z22147 : Int32).toInt ∧ (z22147 : Int32).toInt ≤ 2147483647 from (by omega)) dX11_build_192 (fun F H locs hT v22148 h1v22148 h2v22148 => ?_)
                          have hv22098 := (h2v22148 _ _).trans hv22098
                          have hv22100 := (h2v22148 _ _).trans hv22100
                          have hv22119 := (h2v22148 _ _).trans hv22119
                          have hv22135 := (h2v22148 _ _).trans hv22135
                          have hv22140 := (h2v22148 _ _).trans hv22140
                          have hfr : (∀ b j : Nat, (tag b ≠ 19 ∨ j ≠ 0) → (tag b ≠ 19 ∨ j ≠ 1) → (tag b ≠ 23 ∨ j ≠ 2) → (tag b ≠ 23 ∨ j ≠ 3) → (tag b ≠ 26 ∨ j ≠ 13) → fld F b j = fld Fo b j) ∧ EF tag F Fo := ⟨fun b j n19_0 n19_1 n23_2 n23_3 n26_13 => (h2v22148 b j).trans (hfr.1 b j n19_0 n19_1 n23_2 n23_3 n26_13), fun b j hb => (h1v22148 b j (Or.inl (ns_ne hb gb22136 (by decide)))).trans (hfr.2 b j hb)⟩
                          refine lv_aload_n hx hb dX11_build_193 rfl (lv_at hl 2 rfl) ?_
                          refine t_get (C := RX11) (T := TX11) (N := 16) X hT m0 g0 rfl rfl 5 (by decide) qw_23 inlX11 rfl dX11_build_194 (fun v22149 hv22149 ov22149 => ?_)
                          obtain rfl : v22149 = .ref b22099 := hv22149.symm.trans hv22098
                          refine lv_iload_n hx hb dX11_build_197 rfl (lv_at hl 3 rfl) ?_
                          refine lv_iload_n hx hb dX11_build_198 rfl (lv_at hl 4 rfl) ?_
                          refine lv_iload_n hx hb dX11_build_199 rfl (lv_at hl 5 rfl) ?_
                          refine lv_iload hx hb dX11_build_200 (lv_at hl 6 rfl) ?_
                          refine lv_iload hx hb dX11_build_202 (lv_at hl 7 rfl) ?_
                          refine lv_aload_n hx hb dX11_build_204 rfl (lv_at hl 2 rfl) ?_
                          refine t_get (C := RX11) (T := TX11) (N := 16) X hT m0 g0 rfl rfl 5 (by decide) qw_23 inlX11 rfl dX11_build_205 (fun v22150 hv22150 ov22150 => ?_)
                          obtain rfl : v22150 = .ref b22099 := hv22150.symm.trans hv22098
                          refine t_get (C := RX7) (T := TX7) (N := 7) X hT mb22099 gb22099 rfl rfl 0 (by decide) qw_1225 inlX7 rfl dX11_build_208 (fun v22151 hv22151 ov22151 => ?_)
                          obtain ⟨z22152, rfl, rz22152⟩ := okV_i ov22151
                          refine t_cVv (n := 6) (C := RX7) (T := TX7) (N := 7) (As := [.int p1, .int p2, .int p3, .int p4, .int p5, .int z22152]) (rest := []) X hT (kt17_X7_addSkin l G tag L F hT.2.2.2 b22099 p1 p2 p3 p4 p5 z22152 mb22099 gb22099 (by omega)) mb22099 gb22099 rfl rfl qw_1226 qw_419 qw_420 qw_22 qw_421 ⟨rfl, by decide +kernel, by decide +kernel, by decide +kernel⟩ ⟨Nat.le_of_ble_eq_true rfl, Nat.le_of_ble_eq_true rfl⟩ hl rfl rfl (Nat.le_of_ble_eq_true rfl) dX11_build_211 ⟨Nat.le_of_ble_eq_true rfl, Nat.le_of_ble_eq_true rfl⟩ (fun F H locs hT hz22153 => ?_)
                          have yz22153 := hz22153
                          have hv22098 := (yz22153.1 _ 5 ).trans hv22098
                          have hv22100 := (yz22153.1 _ 2 ).trans hv22100
                          have hv22119 := (yz22153.1 _ 3 ).trans hv22119
                          have hv22135 := (yz22153.1 _ 4 ).trans hv22135
                          have hv22140 := (yz22153.1 _ 12 ).trans hv22140
                          have hv22151 := (yz22153.1 _ 0 ).trans hv22151
                          have hfr : (∀ b j : Nat, (tag b ≠ 19 ∨ j ≠ 0) → (tag b ≠ 19 ∨ j ≠ 1) → (tag b ≠ 23 ∨ j ≠ 2) → (tag b ≠ 23 ∨ j ≠ 3) → (tag b ≠ 26 ∨ j ≠ 13) → fld F b j = fld Fo b j) ∧ EF tag F Fo := ⟨fun b j n19_0 n19_1 n23_2 n23_3 n26_13 => (yz22153.1 b j ).trans (hfr.1 b j n19_0 n19_1 n23_2 n23_3 n26_13), fun b j hb => (yz22153.2 b j hb).trans (hfr.2 b j hb)⟩
                          refine lv_aload_n hx hb dX11_build_214 rfl (lv_at hl 2 rfl) ?_
                          refine lv_iload hx hb dX11_build_215 (lv_at hl 0 rfl) ?_
                          refine t_cVi (n := 1) (C := RX11) (T := TX11) (N := 16) (As := [.int z22133]) (rest := []) X hT (kt56_X11_answer l G tag L F hT.2.2.2 p0 z22133 m0 g0) m0 g0 rfl rfl qw_463 qw_464 qw_465 qw_2 qw_466 ⟨rfl, by decide +kernel, by decide +kernel, by decide +kernel⟩ ⟨Nat.le_of_ble_eq_true rfl, Nat.le_of_ble_eq_true rfl⟩ hl rfl rfl (Nat.le_of_ble_eq_true rfl) dX11_build_217 ⟨Nat.le_of_ble_eq_true rfl, Nat.le_of_ble_eq_true rfl⟩ (fun z22154 F H locs hT hz22154 => ?_)
                          obtain ⟨hz22154, yz22154⟩ := hz22154
                          have hv22098 := (yz22154.1 _ 5 (Or.inr (by decide))).trans hv22098
                          have hv22100 := (yz22154.1 _ 2 (Or.inr (by decide))).trans hv22100
                          have hv22119 := (yz22154.1 _ 3 (Or.inr (by decide))).trans hv22119
                          have hv22135 := (yz22154.1 _ 4 (Or.inr (by decide))).trans hv22135
                          have hv22140 := (yz22154.1 _ 12 (Or.inr (by decide))).trans hv22140
                          have hv22151 := (yz22154.1 _ 0 (Or.inr (by decide))).trans hv22151
                          have hfr : (∀ b j : Nat, (tag b ≠ 19 ∨ j ≠ 0) → (tag b ≠ 19 ∨ j ≠ 1) → (tag b ≠ 23 ∨ j ≠ 2) → (tag b ≠ 23 ∨ j ≠ 3) → (tag b ≠ 26 ∨ j ≠ 13) → fld F b j = fld Fo b j) ∧ EF tag F Fo := ⟨fun b j n19_0 n19_1 n23_2 n23_3 n26_13 => (yz22154.1 b j n26_13).trans (hfr.1 b j n19_0 n19_1 n23_2 n23_3 n26_13), fun b j hb => (yz22154.2 b j hb).trans (hfr.2 b j hb)⟩
                          exact t_iret hQ X hT (⟨rg_all _, hfr⟩) (Nat.le_of_ble_eq_true rfl) (Nat.le_of_ble_eq_true rfl) dX11_build_220
                        · have w22155 := cv_nle (rfl : z22133.toInt = z22133.toInt) (rfl : z22137.toInt = z22137.toInt) c22138
                          refine lv_aload_n hx hb dX11_build_161 rfl (lv_at hl 2 rfl) ?_
                          refine lv_bipush (v := 6) hx hb dX11_build_162 (by decide) ?_
                          refine t_cVi (n := 1) (C := RX11) (T := TX11) (N := 16) (As := [.int 6]) (rest := []) X hT (kt63_X11_refuse l G tag L F hT.2.2.2 p0 6 m0 g0) m0 g0 rfl rfl qw_152 qw_153 qw_154 qw_2 qw_155 ⟨rfl, by decide +kernel, by decide +kernel, by decide +kernel⟩ ⟨Nat.le_of_ble_eq_true rfl, Nat.le_of_ble_eq_true rfl⟩ hl rfl rfl (Nat.le_of_ble_eq_true rfl) dX11_build_164 ⟨Nat.le_of_ble_eq_true rfl, Nat.le_of_ble_eq_true rfl⟩ (fun z22156 F H locs hT hz22156 => ?_)
                          obtain ⟨hz22156, yz22156⟩ := hz22156
                          have hv22098 := (yz22156.1 _ 5 (Or.inr (by decide))).trans hv22098
                          have hv22100 := (yz22156.1 _ 2 (Or.inr (by decide))).trans hv22100
                          have hv22119 := (yz22156.1 _ 3 (Or.inr (by decide))).trans hv22119
                          have hv22135 := (yz22156.1 _ 4 (Or.inr (by decide))).trans hv22135
                          have hfr : (∀ b j : Nat, (tag b ≠ 19 ∨ j ≠ 0) → (tag b ≠ 19 ∨ j ≠ 1) → (tag b ≠ 23 ∨ j ≠ 2) → (tag b ≠ 23 ∨ j ≠ 3) → (tag b ≠ 26 ∨ j ≠ 13) → fld F b j = fld Fo b j) ∧ EF tag F Fo := ⟨fun b j n19_0 n19_1 n23_2 n23_3 n26_13 => (yz22156.1 b j n26_13).trans (hfr.1 b j n19_0 n19_1 n23_2 n23_3 n26_13), fun b j hb => (yz22156.2 b j hb).trans (hfr.2 b j hb)⟩
                          exact t_iret hQ X hT (⟨rg_all _, hfr⟩) (Nat.le_of_ble_eq_true rfl) (Nat.le_of_ble_eq_true rfl) dX11_build_167
                      · have w22157 := cv_eq (rfl : z22128.toInt = z22128.toInt) (by decide : (0 : Int32).toInt = 0) c22129
                        exact K126 z22103 _ _ _ _ (by omega) (by omega) (by omega) (by omega) (by omega) hT hfr  (lv_sub hl [1, 2, 3, 4, 5, 6, 0] rfl)
                  · have w22158 := cv_nle (rfl : p5.toInt = p5.toInt) (by decide : (99 : Int32).toInt = 99) c22117
                    exact K85 z22103 _ _ _ _ (by omega) (by omega) (by omega) hT hfr  (lv_sub hl [1, 2, 3, 4, 5, 6, 0] rfl)
          · have w22159 := cv_nle (rfl : z22103.toInt = z22103.toInt) (by decide : (6 : Int32).toInt = 6) c22104
            refine lv_aload_n hx hb dX11_build_51 rfl (lv_at hl 1 rfl) ?_
            refine lv_iconst (v := 3) hx hb dX11_build_52 (by decide) ?_
            refine t_cVi (n := 1) (C := RX11) (T := TX11) (N := 16) (As := [.int 3]) (rest := []) X hT (kt63_X11_refuse l G tag L F hT.2.2.2 p0 3 m0 g0) m0 g0 rfl rfl qw_152 qw_153 qw_154 qw_2 qw_155 ⟨rfl, by decide +kernel, by decide +kernel, by decide +kernel⟩ ⟨Nat.le_of_ble_eq_true rfl, Nat.le_of_ble_eq_true rfl⟩ hl rfl rfl (Nat.le_of_ble_eq_true rfl) dX11_build_53 ⟨Nat.le_of_ble_eq_true rfl, Nat.le_of_ble_eq_true rfl⟩ (fun z22160 F H locs hT hz22160 => ?_)
            obtain ⟨hz22160, yz22160⟩ := hz22160
            have hv22098 := (yz22160.1 _ 5 (Or.inr (by decide))).trans hv22098
            have hv22100 := (yz22160.1 _ 2 (Or.inr (by decide))).trans hv22100
            have hfr : (∀ b j : Nat, (tag b ≠ 19 ∨ j ≠ 0) → (tag b ≠ 19 ∨ j ≠ 1) → (tag b ≠ 23 ∨ j ≠ 2) → (tag b ≠ 23 ∨ j ≠ 3) → (tag b ≠ 26 ∨ j ≠ 13) → fld F b j = fld Fo b j) ∧ EF tag F Fo := ⟨fun b j n19_0 n19_1 n23_2 n23_3 n26_13 => (yz22160.1 b j n26_13).trans (hfr.1 b j n19_0 n19_1 n23_2 n23_3 n26_13), fun b j hb => (yz22160.2 b j hb).trans (hfr.2 b j hb)⟩
            exact t_iret hQ X hT (⟨rg_all _, hfr⟩) (Nat.le_of_ble_eq_true rfl) (Nat.le_of_ble_eq_true rfl) dX11_build_56
        · have w22161 := cv_nlt (rfl : p3.toInt = p3.toInt) (by decide : (4 : Int32).toInt = 4) c22096
          exact K25  _ _ _ _  hT hfr  (lv_sub hl [0, 1, 2, 3, 4, 5] rfl)
