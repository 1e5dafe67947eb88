set_option maxHeartbeats 4000000 in
set_option maxRecDepth 100000 in
theorem kt147_X11_undo (l : Launch) (G : KG) (tag : Nat → Nat) (L : List Nat) (Fo : Nat → va_E) (ho : okT G ttC tag L Fo) (p0 : Nat) (m0 : p0 ∈ L) (g0 : tag p0 = 26) : TMi l yX11_undo cX11_undo 1 (some .boolean) { frames := 3, cells := 0, slots := 0, locals := 66 } G ttC tag L Fo [.ref p0] (fun r F1 => (0 ≤ r.toInt ∧ r.toInt ≤ 1) ∧ ((∀ b j : Nat, (tag b ≠ 19 ∨ j ≠ 0) → (tag b ≠ 19 ∨ j ≠ 1) → (tag b ≠ 23 ∨ j ≠ 3) → (tag b ≠ 26 ∨ j ≠ 13) → fld F1 b j = fld Fo b j) ∧ EF tag F1 Fo)) := by
  refine t_bodyi (y := yX11_undo) (cd := cX11_undo) (mL := 1) (rt := (some .boolean)) (rm := { frames := 3, cells := 0, slots := 0, locals := 66 }) (av := [.ref p0]) (by decide) (Nat.le_of_ble_eq_true rfl) ho ?_
  intro p e s m args below meth c ls A Q hQ X hT hl
  have hx := X.1.1
  have hb := X.1.2.1
  have hl : lv_has ls 1 [(0, .ref p0)] := hl
  obtain ⟨F, hFo⟩ : ∃ F : Nat → va_E, F = Fo := ⟨_, rfl⟩
  rw [← hFo] at hT
  have hfr : (∀ b j : Nat, (tag b ≠ 19 ∨ j ≠ 0) → (tag b ≠ 19 ∨ j ≠ 1) → (tag b ≠ 23 ∨ j ≠ 3) → (tag b ≠ 26 ∨ j ≠ 13) → fld F b j = fld Fo b j) ∧ EF tag F Fo := by
    rw [hFo]
    exact ⟨by intros; rfl, fun _ _ _ => rfl⟩
  refine lv_aload_n hx hb dX11_undo_0 rfl (lv_at hl 0 rfl) ?_
  refine t_get (C := RX11) (T := TX11) (N := 16) X hT m0 g0 rfl rfl 12 (by decide) qw_45 inlX11 rfl dX11_undo_1 (fun v53525 hv53525 ov53525 => ?_)
  obtain ⟨b53526, rfl, mb53526, gb53526⟩ := okV_r ov53525
  have gb53526 : tag b53526 = 23 := tg_of gb53526
  refine lv_aload_n hx hb dX11_undo_4 rfl (lv_at hl 0 rfl) ?_
  refine t_get (C := RX11) (T := TX11) (N := 16) X hT m0 g0 rfl rfl 5 (by decide) qw_23 inlX11 rfl dX11_undo_5 (fun v53527 hv53527 ov53527 => ?_)
  obtain ⟨b53528, rfl, mb53528, gb53528⟩ := okV_r ov53527
  have gb53528 : tag b53528 = 19 := tg_of gb53528
  refine t_cVi (n := 1) (C := RX2) (T := TX2) (N := 5) (As := [.ref b53528]) (rest := []) X hT (kt146_X2_stepBack l G tag L F hT.2.2.2 b53526 b53528 mb53526 gb53526 mb53528 gb53528) mb53526 gb53526 rfl rfl qw_1521 qw_1522 qw_1523 qw_44 qw_1524 ⟨rfl, by decide +kernel, by decide +kernel, by decide +kernel⟩ ⟨Nat.le_of_ble_eq_true rfl, Nat.le_of_ble_eq_true rfl⟩ hl rfl rfl (Nat.le_of_ble_eq_true rfl) dX11_undo_8 ⟨Nat.le_of_ble_eq_true rfl, Nat.le_of_ble_eq_true rfl⟩ (fun z53529 F H locs hT hz53529 => ?_)
  obtain ⟨hz53529, yz53529⟩ := hz53529
  have hv53525 := (yz53529.1 _ 12 (Or.inr (by decide)) (Or.inr (by decide)) (Or.inr (by decide))).trans hv53525
  have hv53527 := (yz53529.1 _ 5 (Or.inr (by decide)) (Or.inr (by decide)) (Or.inr (by decide))).trans hv53527
  have hfr : (∀ b j : Nat, (tag b ≠ 19 ∨ j ≠ 0) → (tag b ≠ 19 ∨ j ≠ 1) → (tag b ≠ 23 ∨ j ≠ 3) → (tag b ≠ 26 ∨ j ≠ 13) → fld F b j = fld Fo b j) ∧ EF tag F Fo := ⟨fun b j n19_0 n19_1 n23_3 n26_13 => (yz53529.1 b j n19_0 n19_1 n23_3).trans (hfr.1 b j n19_0 n19_1 n23_3 n26_13), fun b j hb => (yz53529.2 b j hb).trans (hfr.2 b j hb)⟩
  refine lv_if_eq (tgt := 21) hx hb dX11_undo_11 (by decide) (fun c53530 => ?_) (fun c53530 => ?_)
  · have w53531 := cv_eq (rfl : z53529.toInt = z53529.toInt) (by decide : (0 : Int32).toInt = 0) c53530
    refine lv_aload_n hx hb dX11_undo_21 rfl (lv_at hl 0 rfl) ?_
    refine lv_bipush (v := 6) hx hb dX11_undo_22 (by decide) ?_
    refine t_cVi (n := 1) (C := RX11) (T := TX11) (N := 16) (As := [.int 6]) (rest := []) X hT (kt58_X11_no l G tag L F hT.2.2.2 p0 6 m0 g0) m0 g0 rfl rfl qw_1454 qw_1455 qw_1456 qw_2 qw_1457 ⟨rfl, by decide +kernel, by decide +kernel, by decide +kernel⟩ ⟨Nat.le_of_ble_eq_true rfl, Nat.le_of_ble_eq_true rfl⟩ hl rfl rfl (Nat.le_of_ble_eq_true rfl) dX11_undo_24 ⟨Nat.le_of_ble_eq_true rfl, Nat.le_of_ble_eq_true rfl⟩ (fun z53532 F H locs hT hz53532 => ?_)
    obtain ⟨hz53532, yz53532⟩ := hz53532
    have hv53525 := (yz53532.1 _ 12 (Or.inr (by decide))).trans hv53525
    have hv53527 := (yz53532.1 _ 5 (Or.inr (by decide))).trans hv53527
    have hfr : (∀ b j : Nat, (tag b ≠ 19 ∨ j ≠ 0) → (tag b ≠ 19 ∨ j ≠ 1) → (tag b ≠ 23 ∨ j ≠ 3) → (tag b ≠ 26 ∨ j ≠ 13) → fld F b j = fld Fo b j) ∧ EF tag F Fo := ⟨fun b j n19_0 n19_1 n23_3 n26_13 => (yz53532.1 b j n26_13).trans (hfr.1 b j n19_0 n19_1 n23_3 n26_13), fun b j hb => (yz53532.2 b j hb).trans (hfr.2 b j hb)⟩
    exact t_zret hQ X hT (nar_z (by omega)) (⟨(by omega), hfr⟩) (Nat.le_of_ble_eq_true rfl) (Nat.le_of_ble_eq_true rfl) dX11_undo_27
  · have w53533 := cv_ne (rfl : z53529.toInt = z53529.toInt) (by decide : (0 : Int32).toInt = 0) c53530
    refine lv_aload_n hx hb dX11_undo_14 rfl (lv_at hl 0 rfl) ?_
    refine t_cVi (n := 0) (C := RX11) (T := TX11) (N := 16) (As := []) (rest := []) X hT (kt59_X11_yes l G tag L F hT.2.2.2 p0 m0 g0) m0 g0 rfl rfl qw_1460 qw_1461 qw_1462 qw_2 qw_1463 ⟨rfl, by decide +kernel, by decide +kernel, by decide +kernel⟩ ⟨Nat.le_of_ble_eq_true rfl, Nat.le_of_ble_eq_true rfl⟩ hl rfl rfl (Nat.le_of_ble_eq_true rfl) dX11_undo_15 ⟨Nat.le_of_ble_eq_true rfl, Nat.le_of_ble_eq_true rfl⟩ (fun z53534 F H locs hT hz53534 => ?_)
    obtain ⟨hz53534, yz53534⟩ := hz53534
    have hv53525 := (yz53534.1 _ 12 (Or.inr (by decide))).trans hv53525
    have hv53527 := (yz53534.1 _ 5 (Or.inr (by decide))).trans hv53527
    have hfr : (∀ b j : Nat, (tag b ≠ 19 ∨ j ≠ 0) → (tag b ≠ 19 ∨ j ≠ 1) → (tag b ≠ 23 ∨ j ≠ 3) → (tag b ≠ 26 ∨ j ≠ 13) → fld F b j = fld Fo b j) ∧ EF tag F Fo := ⟨fun b j n19_0 n19_1 n23_3 n26_13 => (yz53534.1 b j n26_13).trans (hfr.1 b j n19_0 n19_1 n23_3 n26_13), fun b j hb => (yz53534.2 b j hb).trans (hfr.2 b j hb)⟩
    refine lv_goto (tgt := 27) hx hb dX11_undo_18 (by decide) ?_
    exact t_zret hQ X hT (nar_z (by omega)) (⟨(by omega), hfr⟩) (Nat.le_of_ble_eq_true rfl) (Nat.le_of_ble_eq_true rfl) dX11_undo_27
set_option maxHeartbeats 4000000 in
set_option maxRecDepth 100000 in
theorem kt148_X11_warm (l : Launch) (G : KG) (tag : Nat → Nat) (L : List Nat) (Fo : Nat → va_E) (ho : okT G ttC tag L Fo) (p0 : Nat) (p1 : Int32) (p2 : Int32) (m0 : p0 ∈ L) (g0 : tag p0 = 26) : TMi l yX11_warm cX11_warm 3 (some .int) { frames := 3, cells := 0, slots := 0, locals := 70 } G ttC tag L Fo [.ref p0, .int p1, .int p2] (fun r F1 => ((-2147483648) ≤ r.toInt ∧ r.toInt ≤ 2147483647) ∧ ((∀ b j : Nat, (tag b ≠ 26 ∨ j ≠ 13) → fld F1 b j = fld Fo b j) ∧ EF tag F1 Fo)) := by
  refine t_bodyi (y := yX11_warm) (cd := cX11_warm) (mL := 3) (rt := (some .int)) (rm := { frames := 3, cells := 0, slots := 0, locals := 70 }) (av := [.ref p0, .int p1, .int p2]) (by decide) (Nat.le_of_ble_eq_true rfl) ho ?_
  intro p e s m args below meth c ls A Q hQ X hT hl
  have hx := X.1.1
  have hb := X.1.2.1
  have hl : lv_has ls 3 [(0, .ref p0), (1, .int p1), (2, .int p2)] := hl
  have rp1 := rg_all p1
  have rp2 := rg_all p2
  obtain ⟨F, hFo⟩ : ∃ F : Nat → va_E, F = Fo := ⟨_, rfl⟩
  rw [← hFo] at hT
  have hfr : (∀ b j : Nat, (tag b ≠ 26 ∨ j ≠ 13) → fld F b j = fld Fo b j) ∧ EF tag F Fo := by
    rw [hFo]
    exact ⟨by intros; rfl, fun _ _ _ => rfl⟩
  refine lv_aload_n hx hb dX11_warm_0 rfl (lv_at hl 0 rfl) ?_
  refine lv_iload_n hx hb dX11_warm_1 rfl (lv_at hl 1 rfl) ?_
  refine lv_iload_n hx hb dX11_warm_2 rfl (lv_at hl 2 rfl) ?_
  refine t_cVi (n := 2) (C := RX11) (T := TX11) (N := 16) (As := [.int p1, .int p2]) (rest := []) X hT (kt62_X11_isRoom l G tag L F hT.2.2.2 p0 p1 p2 m0 g0) m0 g0 rfl rfl qw_827 qw_828 qw_829 qw_2 qw_830 ⟨rfl, by decide +kernel, by decide +kernel, by decide +kernel⟩ ⟨Nat.le_of_ble_eq_true rfl, Nat.le_of_ble_eq_true rfl⟩ hl rfl rfl (Nat.le_of_ble_eq_true rfl) dX11_warm_3 ⟨Nat.le_of_ble_eq_true rfl, Nat.le_of_ble_eq_true rfl⟩ (fun z53634 F9 H locs hT hz53634 => ?_)
  obtain ⟨fz53634, hz53634⟩ := hz53634
  rw [fz53634] at hT
  obtain ⟨hz53634, iz53634⟩ := hz53634
  refine lv_if_ne (tgt := 15) hx hb dX11_warm_6 (by decide) (fun c53635 => ?_) (fun c53635 => ?_)
  · have w53636 := cv_ne (rfl : z53634.toInt = z53634.toInt) (by decide : (0 : Int32).toInt = 0) c53635
    have w53637 := (fun h => (iz53634 h).1) (by omega)
    have w53638 := (fun h => (iz53634 h).2) (by omega)
    refine lv_aload_n hx hb dX11_warm_15 rfl (lv_at hl 0 rfl) ?_
    refine lv_aload_n hx hb dX11_warm_16 rfl (lv_at hl 0 rfl) ?_
    refine lv_iload_n hx hb dX11_warm_17 rfl (lv_at hl 1 rfl) ?_
    refine lv_iload_n hx hb dX11_warm_18 rfl (lv_at hl 2 rfl) ?_
    refine t_cVi (n := 2) (C := RX11) (T := TX11) (N := 16) (As := [.int p1, .int p2]) (rest := [.ref p0]) X hT (kt87_X11_warmth l G tag L F hT.2.2.2 p0 p1 p2 m0 g0 (by omega)) m0 g0 rfl rfl qw_844 qw_845 qw_846 qw_2 qw_847 ⟨rfl, by decide +kernel, by decide +kernel, by decide +kernel⟩ ⟨Nat.le_of_ble_eq_true rfl, Nat.le_of_ble_eq_true rfl⟩ hl rfl rfl (Nat.le_of_ble_eq_true rfl) dX11_warm_19 ⟨Nat.le_of_ble_eq_true rfl, Nat.le_of_ble_eq_true rfl⟩ (fun z53639 F9 H locs hT hz53639 => ?_)
    obtain ⟨fz53639, hz53639⟩ := hz53639
    rw [fz53639] at hT
    refine t_cVi (n := 1) (C := RX11) (T := TX11) (N := 16) (As := [.int z53639]) (rest := []) X hT (kt56_X11_answer l G tag L F hT.2.2.2 p0 z53639 m0 g0) m0 g0 rfl rfl qw_463 qw_464 qw_465 qw_2 qw_466 ⟨rfl, by decide +kernel, by decide +kernel, by decide +kernel⟩ ⟨Nat.le_of_ble_eq_true rfl, Nat.le_of_ble_eq_true rfl⟩ hl rfl rfl (Nat.le_of_ble_eq_true rfl) dX11_warm_22 ⟨Nat.le_of_ble_eq_true rfl, Nat.le_of_ble_eq_true rfl⟩ (fun z53640 F H locs hT hz53640 => ?_)
    obtain ⟨hz53640, yz53640⟩ := hz53640
    have hfr : (∀ b j : Nat, (tag b ≠ 26 ∨ j ≠ 13) → fld F b j = fld Fo b j) ∧ EF tag F Fo := ⟨fun b j n26_13 => (yz53640.1 b j n26_13).trans (hfr.1 b j n26_13), fun b j hb => (yz53640.2 b j hb).trans (hfr.2 b j hb)⟩
    exact t_iret hQ X hT (⟨rg_all _, hfr⟩) (Nat.le_of_ble_eq_true rfl) (Nat.le_of_ble_eq_true rfl) dX11_warm_25
  · have w53641 := cv_eq (rfl : z53634.toInt = z53634.toInt) (by decide : (0 : Int32).toInt = 0) c53635
    refine lv_aload_n hx hb dX11_warm_9 rfl (lv_at hl 0 rfl) ?_
    refine lv_iconst (v := 1) hx hb dX11_warm_10 (by decide) ?_
    refine t_cVi (n := 1) (C := RX11) (T := TX11) (N := 16) (As := [.int 1]) (rest := []) X hT (kt63_X11_refuse l G tag L F hT.2.2.2 p0 1 m0 g0) m0 g0 rfl rfl qw_152 qw_153 qw_154 qw_2 qw_155 ⟨rfl, by decide +kernel, by decide +kernel, by decide +kernel⟩ ⟨Nat.le_of_ble_eq_true rfl, Nat.le_of_ble_eq_true rfl⟩ hl rfl rfl (Nat.le_of_ble_eq_true rfl) dX11_warm_11 ⟨Nat.le_of_ble_eq_true rfl, Nat.le_of_ble_eq_true rfl⟩ (fun z53642 F H locs hT hz53642 => ?_)
    obtain ⟨hz53642, yz53642⟩ := hz53642
    have hfr : (∀ b j : Nat, (tag b ≠ 26 ∨ j ≠ 13) → fld F b j = fld Fo b j) ∧ EF tag F Fo := ⟨fun b j n26_13 => (yz53642.1 b j n26_13).trans (hfr.1 b j n26_13), fun b j hb => (yz53642.2 b j hb).trans (hfr.2 b j hb)⟩
    exact t_iret hQ X hT (⟨rg_all _, hfr⟩) (Nat.le_of_ble_eq_true rfl) (Nat.le_of_ble_eq_true rfl) dX11_warm_14
set_option maxHeartbeats 4000000 in
set_option maxRecDepth 100000 in
theorem kt149_X11_way (l : Launch) (G : KG) (tag : Nat → Nat) (L : List Nat) (Fo : Nat → va_E) (ho : okT G ttC tag L Fo) (p0 : Nat) (p1 : Int32) (p2 : Int32) (m0 : p0 ∈ L) (g0 : tag p0 = 26) : TMi l yX11_way cX11_way 3 (some .int) { frames := 4, cells := 0, slots := 0, locals := 93 } G ttC tag L Fo [.ref p0, .int p1, .int p2] (fun r F1 => ((-2147483648) ≤ r.toInt ∧ r.toInt ≤ 2147483647) ∧ ((∀ b j : Nat, (tag b ≠ 26 ∨ j ≠ 13) → fld F1 b j = fld Fo b j) ∧ EF tag F1 Fo)) := by
  refine t_bodyi (y := yX11_way) (cd := cX11_way) (mL := 3) (rt := (some .int)) (rm := { frames := 4, cells := 0, slots := 0, locals := 93 }) (av := [.ref p0, .int p1, .int p2]) (by decide) (Nat.le_of_ble_eq_true rfl) ho ?_
  intro p e s m args below meth c ls A Q hQ X hT hl
  have hx := X.1.1
  have hb := X.1.2.1
  have hl : lv_has ls 3 [(0, .ref p0), (1, .int p1), (2, .int p2)] := hl
  have rp1 := rg_all p1
  have rp2 := rg_all p2
  obtain ⟨F, hFo⟩ : ∃ F : Nat → va_E, F = Fo := ⟨_, rfl⟩
  rw [← hFo] at hT
  have hfr : (∀ b j : Nat, (tag b ≠ 26 ∨ j ≠ 13) → fld F b j = fld Fo b j) ∧ EF tag F Fo := by
    rw [hFo]
    exact ⟨by intros; rfl, fun _ _ _ => rfl⟩
  refine lv_aload_n hx hb dX11_way_0 rfl (lv_at hl 0 rfl) ?_
  refine lv_iload_n hx hb dX11_way_1 rfl (lv_at hl 1 rfl) ?_
  refine lv_iload_n hx hb dX11_way_2 rfl (lv_at hl 2 rfl) ?_
  refine t_cVi (n := 2) (C := RX11) (T := TX11) (N := 16) (As := [.int p1, .int p2]) (rest := []) X hT (kt62_X11_isRoom l G tag L F hT.2.2.2 p0 p1 p2 m0 g0) m0 g0 rfl rfl qw_827 qw_828 qw_829 qw_2 qw_830 ⟨rfl, by decide +kernel, by decide +kernel, by decide +kernel⟩ ⟨Nat.le_of_ble_eq_true rfl, Nat.le_of_ble_eq_true rfl⟩ hl rfl rfl (Nat.le_of_ble_eq_true rfl) dX11_way_3 ⟨Nat.le_of_ble_eq_true rfl, Nat.le_of_ble_eq_true rfl⟩ (fun z53764 F9 H locs hT hz53764 => ?_)
  obtain ⟨fz53764, hz53764⟩ := hz53764
  rw [fz53764] at hT
  obtain ⟨hz53764, iz53764⟩ := hz53764
  refine lv_if_ne (tgt := 15) hx hb dX11_way_6 (by decide) (fun c53765 => ?_) (fun c53765 => ?_)
  · have w53766 := cv_ne (rfl : z53764.toInt = z53764.toInt) (by decide : (0 : Int32).toInt = 0) c53765
    have w53767 := (fun h => (iz53764 h).1) (by omega)
    have w53768 := (fun h => (iz53764 h).2) (by omega)
    refine lv_aload_n hx hb dX11_way_15 rfl (lv_at hl 0 rfl) ?_
    refine lv_aload_n hx hb dX11_way_16 rfl (lv_at hl 0 rfl) ?_
    refine t_get (C := RX11) (T := TX11) (N := 16) X hT m0 g0 rfl rfl 5 (by decide) qw_23 inlX11 rfl dX11_way_17 (fun v53769 hv53769 ov53769 => ?_)
    obtain ⟨b53770, rfl, mb53770, gb53770⟩ := okV_r ov53769
    have gb53770 : tag b53770 = 19 := tg_of gb53770
    refine lv_iload_n hx hb dX11_way_20 rfl (lv_at hl 1 rfl) ?_
    refine lv_iload_n hx hb dX11_way_21 rfl (lv_at hl 2 rfl) ?_
    refine t_cVi (n := 2) (C := RX7) (T := TX7) (N := 7) (As := [.int p1, .int p2]) (rest := [.ref p0]) X hT (kt26_X7_wayTo l G tag L F hT.2.2.2 b53770 p1 p2 mb53770 gb53770 (by omega)) mb53770 gb53770 rfl rfl qw_979 qw_980 qw_981 qw_22 qw_982 ⟨rfl, by decide +kernel, by decide +kernel, by decide +kernel⟩ ⟨Nat.le_of_ble_eq_true rfl, Nat.le_of_ble_eq_true rfl⟩ hl rfl rfl (Nat.le_of_ble_eq_true rfl) dX11_way_22 ⟨Nat.le_of_ble_eq_true rfl, Nat.le_of_ble_eq_true rfl⟩ (fun z53771 F9 H locs hT hz53771 => ?_)
    obtain ⟨fz53771, hz53771⟩ := hz53771
    rw [fz53771] at hT
    refine t_cVi (n := 1) (C := RX11) (T := TX11) (N := 16) (As := [.int z53771]) (rest := []) X hT (kt56_X11_answer l G tag L F hT.2.2.2 p0 z53771 m0 g0) m0 g0 rfl rfl qw_463 qw_464 qw_465 qw_2 qw_466 ⟨rfl, by decide +kernel, by decide +kernel, by decide +kernel⟩ ⟨Nat.le_of_ble_eq_true rfl, Nat.le_of_ble_eq_true rfl⟩ hl rfl rfl (Nat.le_of_ble_eq_true rfl) dX11_way_25 ⟨Nat.le_of_ble_eq_true rfl, Nat.le_of_ble_eq_true rfl⟩ (fun z53772 F H locs hT hz53772 => ?_)
    obtain ⟨hz53772, yz53772⟩ := hz53772
    have hv53769 := (yz53772.1 _ 5 (Or.inr (by decide))).trans hv53769
    have hfr : (∀ b j : Nat, (tag b ≠ 26 ∨ j ≠ 13) → fld F b j = fld Fo b j) ∧ EF tag F Fo := ⟨fun b j n26_13 => (yz53772.1 b j n26_13).trans (hfr.1 b j n26_13), fun b j hb => (yz53772.2 b j hb).trans (hfr.2 b j hb)⟩
    exact t_iret hQ X hT (⟨rg_all _, hfr⟩) (Nat.le_of_ble_eq_true rfl) (Nat.le_of_ble_eq_true rfl) dX11_way_28
  · have w53773 := cv_eq (rfl : z53764.toInt = z53764.toInt) (by decide : (0 : Int32).toInt = 0) c53765
    refine lv_aload_n hx hb dX11_way_9 rfl (lv_at hl 0 rfl) ?_
    refine lv_iconst (v := 1) hx hb dX11_way_10 (by decide) ?_
    refine t_cVi (n := 1) (C := RX11) (T := TX11) (N := 16) (As := [.int 1]) (rest := []) X hT (kt63_X11_refuse l G tag L F hT.2.2.2 p0 1 m0 g0) m0 g0 rfl rfl qw_152 qw_153 qw_154 qw_2 qw_155 ⟨rfl, by decide +kernel, by decide +kernel, by decide +kernel⟩ ⟨Nat.le_of_ble_eq_true rfl, Nat.le_of_ble_eq_true rfl⟩ hl rfl rfl (Nat.le_of_ble_eq_true rfl) dX11_way_11 ⟨Nat.le_of_ble_eq_true rfl, Nat.le_of_ble_eq_true rfl⟩ (fun z53774 F H locs hT hz53774 => ?_)
    obtain ⟨hz53774, yz53774⟩ := hz53774
    have hfr : (∀ b j : Nat, (tag b ≠ 26 ∨ j ≠ 13) → fld F b j = fld Fo b j) ∧ EF tag F Fo := ⟨fun b j n26_13 => (yz53774.1 b j n26_13).trans (hfr.1 b j n26_13), fun b j hb => (yz53774.2 b j hb).trans (hfr.2 b j hb)⟩
    exact t_iret hQ X hT (⟨rg_all _, hfr⟩) (Nat.le_of_ble_eq_true rfl) (Nat.le_of_ble_eq_true rfl) dX11_way_14
set_option maxHeartbeats 4000000 in
set_option maxRecDepth 100000 in
theorem kt150_X11_where (l : Launch) (G : KG) (tag : Nat → Nat) (L : List Nat) (F : Nat → va_E) (ho : okT G ttC tag L F) (p0 : Nat) (m0 : p0 ∈ L) (g0 : tag p0 = 26) : TMi l yX11_where cX11_where 1 (some .int) { frames := 0, cells := 0, slots := 0, locals := 0 } G ttC tag L F [.ref p0] (fun r F1 => F1 = F ∧ ((-2147483648) ≤ r.toInt ∧ r.toInt ≤ 2147483647)) := by
  refine t_bodyi (y := yX11_where) (cd := cX11_where) (mL := 1) (rt := (some .int)) (rm := { frames := 0, cells := 0, slots := 0, locals := 0 }) (av := [.ref p0]) (by decide) (Nat.le_of_ble_eq_true rfl) ho ?_
  intro p e s m args below meth c ls A Q hQ X hT hl
  have hx := X.1.1
  have hb := X.1.2.1
  have hl : lv_has ls 1 [(0, .ref p0)] := hl
  refine lv_aload_n hx hb dX11_where_0 rfl (lv_at hl 0 rfl) ?_
  refine t_get (C := RX11) (T := TX11) (N := 16) X hT m0 g0 rfl rfl 13 (by decide) qw_156 inlX11 rfl dX11_where_1 (fun v53852 hv53852 ov53852 => ?_)
  obtain ⟨z53853, rfl, rz53853⟩ := okV_i ov53852
  refine lv_iconst (v := 4) hx hb dX11_where_4 (by decide) ?_
  refine lv_icmp_ne (tgt := 15) hx hb dX11_where_5 (by decide) (fun c53854 => ?_) (fun c53854 => ?_)
  · have w53855 := cv_ne (rfl : z53853.toInt = z53853.toInt) (by decide : (4 : Int32).toInt = 4) c53854
    refine lv_iconst (v := (-1)) hx hb dX11_where_15 (by decide) ?_
    exact t_iret hQ X hT (⟨rfl, rg_all _⟩) (Nat.le_of_ble_eq_true rfl) (Nat.le_of_ble_eq_true rfl) dX11_where_16
  · have w53856 := cv_eq (rfl : z53853.toInt = z53853.toInt) (by decide : (4 : Int32).toInt = 4) c53854
    refine lv_aload_n hx hb dX11_where_8 rfl (lv_at hl 0 rfl) ?_
    refine t_get (C := RX11) (T := TX11) (N := 16) X hT m0 g0 rfl rfl 15 (by decide) qw_149 inlX11 rfl dX11_where_9 (fun v53857 hv53857 ov53857 => ?_)
    obtain ⟨z53858, rfl, rz53858⟩ := okV_i ov53857
    refine lv_goto (tgt := 16) hx hb dX11_where_12 (by decide) ?_
    exact t_iret hQ X hT (⟨rfl, rg_all _⟩) (Nat.le_of_ble_eq_true rfl) (Nat.le_of_ble_eq_true rfl) dX11_where_16
set_option maxHeartbeats 4000000 in
set_option maxRecDepth 100000 in
theorem kt151_X11_whose (l : Launch) (G : KG) (tag : Nat → Nat) (L : List Nat) (Fo : Nat → va_E) (ho : okT G ttC tag L Fo) (p0 : Nat) (p1 : Int32) (p2 : Int32) (m0 : p0 ∈ L) (g0 : tag p0 = 26) : TMi l yX11_whose cX11_whose 3 (some .int) { frames := 2, cells := 0, slots := 0, locals := 50 } G ttC tag L Fo [.ref p0, .int p1, .int p2] (fun r F1 => ((-2147483648) ≤ r.toInt ∧ r.toInt ≤ 2147483647) ∧ ((∀ b j : Nat, (tag b ≠ 26 ∨ j ≠ 13) → fld F1 b j = fld Fo b j) ∧ EF tag F1 Fo)) := by
  refine t_bodyi (y := yX11_whose) (cd := cX11_whose) (mL := 3) (rt := (some .int)) (rm := { frames := 2, cells := 0, slots := 0, locals := 50 }) (av := [.ref p0, .int p1, .int p2]) (by decide) (Nat.le_of_ble_eq_true rfl) ho ?_
  intro p e s m args below meth c ls A Q hQ X hT hl
  have hx := X.1.1
  have hb := X.1.2.1
  have hl : lv_has ls 3 [(0, .ref p0), (1, .int p1), (2, .int p2)] := hl
  have rp1 := rg_all p1
  have rp2 := rg_all p2
  obtain ⟨F, hFo⟩ : ∃ F : Nat → va_E, F = Fo := ⟨_, rfl⟩
  rw [← hFo] at hT
  have hfr : (∀ b j : Nat, (tag b ≠ 26 ∨ j ≠ 13) → fld F b j = fld Fo b j) ∧ EF tag F Fo := by
    rw [hFo]
    exact ⟨by intros; rfl, fun _ _ _ => rfl⟩
  have K19 : ∀ (z54057 : Int32) (F : Nat → va_E) (H : Heap) (locs : List Loc) (ls : Array Slot), (0 ≤ z54057.toInt ∧ z54057.toInt ≤ 1) → TH G ttC A s tag L F H locs → ((∀ b j : Nat, (tag b ≠ 26 ∨ j ≠ 13) → fld F b j = fld Fo b j) ∧ EF tag F Fo) → fld F p0 2 = .int z54057 → lv_has ls 3 [(0, .ref p0), (1, .int p1), (2, .int p2)] → W p l e { frames := 2, cells := 0, slots := 0, locals := 50 } s m args below meth c H locs 0 0 Q (F0 m 19 ls []) := by
    intro z54057 F H locs ls rz54057 hT hfr qz54057 hl
    refine lv_aload_n hx hb dX11_whose_19 rfl (lv_at hl 0 rfl) ?_
    refine lv_iconst (v := 1) hx hb dX11_whose_20 (by decide) ?_
    refine t_cVi (n := 1) (C := RX11) (T := TX11) (N := 16) (As := [.int 1]) (rest := []) X hT (kt63_X11_refuse l G tag L F hT.2.2.2 p0 1 m0 g0) m0 g0 rfl rfl qw_152 qw_153 qw_154 qw_2 qw_155 ⟨rfl, by decide +kernel, by decide +kernel, by decide +kernel⟩ ⟨Nat.le_of_ble_eq_true rfl, Nat.le_of_ble_eq_true rfl⟩ hl rfl rfl (Nat.le_of_ble_eq_true rfl) dX11_whose_21 ⟨Nat.le_of_ble_eq_true rfl, Nat.le_of_ble_eq_true rfl⟩ (fun z54058 F H locs hT hz54058 => ?_)
    obtain ⟨hz54058, yz54058⟩ := hz54058
    have qz54057 := (yz54058.1 _ 2 (Or.inr (by decide))).trans qz54057
    have hfr : (∀ b j : Nat, (tag b ≠ 26 ∨ j ≠ 13) → fld F b j = fld Fo b j) ∧ EF tag F Fo := ⟨fun b j n26_13 => (yz54058.1 b j n26_13).trans (hfr.1 b j n26_13), fun b j hb => (yz54058.2 b j hb).trans (hfr.2 b j hb)⟩
    exact t_iret hQ X hT (⟨rg_all _, hfr⟩) (Nat.le_of_ble_eq_true rfl) (Nat.le_of_ble_eq_true rfl) dX11_whose_24
  refine lv_aload_n hx hb dX11_whose_0 rfl (lv_at hl 0 rfl) ?_
  refine t_get (C := RX11) (T := TX11) (N := 16) X hT m0 g0 rfl rfl 2 (by decide) qw_150 inlX11 rfl dX11_whose_1 (fun v54059 hv54059 ov54059 => ?_)
  obtain ⟨z54060, rfl, rz54060⟩ := okV_i ov54059
  refine lv_if_eq (tgt := 19) hx hb dX11_whose_4 (by decide) (fun c54061 => ?_) (fun c54061 => ?_)
  · have w54062 := cv_eq (rfl : z54060.toInt = z54060.toInt) (by decide : (0 : Int32).toInt = 0) c54061
    exact K19 z54060 _ _ _ _ (by omega) hT hfr hv54059 (lv_sub hl [0, 1, 2] rfl)
  · have w54063 := cv_ne (rfl : z54060.toInt = z54060.toInt) (by decide : (0 : Int32).toInt = 0) c54061
    refine lv_aload_n hx hb dX11_whose_7 rfl (lv_at hl 0 rfl) ?_
    refine t_get (C := RX11) (T := TX11) (N := 16) X hT m0 g0 rfl rfl 3 (by decide) qw_18 inlX11 rfl dX11_whose_8 (fun v54064 hv54064 ov54064 => ?_)
    obtain ⟨b54065, rfl, mb54065, gb54065⟩ := okV_r ov54064
    have gb54065 : tag b54065 = 18 := tg_of gb54065
    refine lv_iload_n hx hb dX11_whose_11 rfl (lv_at hl 1 rfl) ?_
    refine lv_iload_n hx hb dX11_whose_12 rfl (lv_at hl 2 rfl) ?_
    refine t_cVi (n := 2) (C := RX1) (T := TX1) (N := 20) (As := [.int p1, .int p2]) (rest := []) X hT (kt6_X1_isOn l G tag L F hT.2.2.2 b54065 p1 p2 mb54065 gb54065) mb54065 gb54065 rfl rfl qw_711 qw_385 qw_386 qw_17 qw_387 ⟨rfl, by decide +kernel, by decide +kernel, by decide +kernel⟩ ⟨Nat.le_of_ble_eq_true rfl, Nat.le_of_ble_eq_true rfl⟩ hl rfl rfl (Nat.le_of_ble_eq_true rfl) dX11_whose_13 ⟨Nat.le_of_ble_eq_true rfl, Nat.le_of_ble_eq_true rfl⟩ (fun z54066 F9 H locs hT hz54066 => ?_)
    obtain ⟨fz54066, hz54066⟩ := hz54066
    rw [fz54066] at hT
    refine lv_if_ne (tgt := 25) hx hb dX11_whose_16 (by decide) (fun c54067 => ?_) (fun c54067 => ?_)
    · have w54068 := cv_ne (rfl : z54066.toInt = z54066.toInt) (by decide : (0 : Int32).toInt = 0) c54067
      refine lv_aload_n hx hb dX11_whose_25 rfl (lv_at hl 0 rfl) ?_
      refine lv_aload_n hx hb dX11_whose_26 rfl (lv_at hl 0 rfl) ?_
      refine t_get (C := RX11) (T := TX11) (N := 16) X hT m0 g0 rfl rfl 3 (by decide) qw_18 inlX11 rfl dX11_whose_27 (fun v54069 hv54069 ov54069 => ?_)
      obtain rfl : v54069 = .ref b54065 := hv54069.symm.trans hv54064
      refine lv_aload_n hx hb dX11_whose_30 rfl (lv_at hl 0 rfl) ?_
      refine t_get (C := RX11) (T := TX11) (N := 16) X hT m0 g0 rfl rfl 5 (by decide) qw_23 inlX11 rfl dX11_whose_31 (fun v54070 hv54070 ov54070 => ?_)
      obtain ⟨b54071, rfl, mb54071, gb54071⟩ := okV_r ov54070
      have gb54071 : tag b54071 = 19 := tg_of gb54071
      refine lv_iload_n hx hb dX11_whose_34 rfl (lv_at hl 1 rfl) ?_
      refine lv_iload_n hx hb dX11_whose_35 rfl (lv_at hl 2 rfl) ?_
      refine t_cSi (n := 4) (As := [.ref b54065, .ref b54071, .int p1, .int p2]) (rest := [.ref p0]) X hT (kt28_X6_ownersOf l G tag L F hT.2.2.2 b54065 b54071 p1 p2 mb54065 gb54065 mb54071 gb54071) qw_712 qw_713 qw_380 qw_714 ⟨by decide +kernel, by decide +kernel, by decide +kernel⟩ ⟨Nat.le_of_ble_eq_true rfl, Nat.le_of_ble_eq_true rfl⟩ hl rfl rfl (Nat.le_of_ble_eq_true rfl) dX11_whose_36 ⟨Nat.le_of_ble_eq_true rfl, Nat.le_of_ble_eq_true rfl⟩ (fun z54072 F9 H locs hT hz54072 => ?_)
      obtain ⟨fz54072, hz54072⟩ := hz54072
      rw [fz54072] at hT
      refine t_cVi (n := 1) (C := RX11) (T := TX11) (N := 16) (As := [.int z54072]) (rest := []) X hT (kt56_X11_answer l G tag L F hT.2.2.2 p0 z54072 m0 g0) m0 g0 rfl rfl qw_463 qw_464 qw_465 qw_2 qw_466 ⟨rfl, by decide +kernel, by decide +kernel, by decide +kernel⟩ ⟨Nat.le_of_ble_eq_true rfl, Nat.le_of_ble_eq_true rfl⟩ hl rfl rfl (Nat.le_of_ble_eq_true rfl) dX11_whose_39 ⟨Nat.le_of_ble_eq_true rfl, Nat.le_of_ble_eq_true rfl⟩ (fun z54073 F H locs hT hz54073 => ?_)
      obtain ⟨hz54073, yz54073⟩ := hz54073
      have hv54059 := (yz54073.1 _ 2 (Or.inr (by decide))).trans hv54059
      have hv54064 := (yz54073.1 _ 3 (Or.inr (by decide))).trans hv54064
      have hv54070 := (yz54073.1 _ 5 (Or.inr (by decide))).trans hv54070
      have hfr : (∀ b j : Nat, (tag b ≠ 26 ∨ j ≠ 13) → fld F b j = fld Fo b j) ∧ EF tag F Fo := ⟨fun b j n26_13 => (yz54073.1 b j n26_13).trans (hfr.1 b j n26_13), fun b j hb => (yz54073.2 b j hb).trans (hfr.2 b j hb)⟩
      exact t_iret hQ X hT (⟨rg_all _, hfr⟩) (Nat.le_of_ble_eq_true rfl) (Nat.le_of_ble_eq_true rfl) dX11_whose_42
    · have w54074 := cv_eq (rfl : z54066.toInt = z54066.toInt) (by decide : (0 : Int32).toInt = 0) c54067
      exact K19 z54060 _ _ _ _ (by omega) hT hfr hv54059 (lv_sub hl [0, 1, 2] rfl)
set_option maxHeartbeats 4000000 in
set_option maxRecDepth 100000 in
theorem kt152_X11_worth (l : Launch) (G : KG) (tag : Nat → Nat) (L : List Nat) (Fo : Nat → va_E) (ho : okT G ttC tag L Fo) (p0 : Nat) (p1 : Int32) (m0 : p0 ∈ L) (g0 : tag p0 = 26) : TMi l yX11_worth cX11_worth 4 (some .int) { frames := 2, cells := 0, slots := 0, locals := 46 } G ttC tag L Fo [.ref p0, .int p1] (fun r F1 => ((-2147483648) ≤ r.toInt ∧ r.toInt ≤ 2147483647) ∧ ((∀ b j : Nat, (tag b ≠ 26 ∨ j ≠ 13) → fld F1 b j = fld Fo b j) ∧ EF tag F1 Fo)) := by
  refine t_bodyi (y := yX11_worth) (cd := cX11_worth) (mL := 4) (rt := (some .int)) (rm := { frames := 2, cells := 0, slots := 0, locals := 46 }) (av := [.ref p0, .int p1]) (by decide) (Nat.le_of_ble_eq_true rfl) ho ?_
  intro p e s m args below meth c ls A Q hQ X hT hl
  have hx := X.1.1
  have hb := X.1.2.1
  have hl : lv_has ls 4 [(0, .ref p0), (1, .int p1)] := hl
  have rp1 := rg_all p1
  obtain ⟨F, hFo⟩ : ∃ F : Nat → va_E, F = Fo := ⟨_, rfl⟩
  rw [← hFo] at hT
  have hfr : (∀ b j : Nat, (tag b ≠ 26 ∨ j ≠ 13) → fld F b j = fld Fo b j) ∧ EF tag F Fo := by
    rw [hFo]
    exact ⟨by intros; rfl, fun _ _ _ => rfl⟩
  have K18 : ∀ (n : Nat) (z54548 : Int32) (z54549 : Int32) (F : Nat → va_E) (H : Heap) (locs : List Loc) (ls : Array Slot), (6 - z54549.toInt < (n : Int)) → (1 ≤ z54549.toInt ∧ z54549.toInt ≤ 6) → (0 ≤ p1.toInt ∧ p1.toInt ≤ 3) → TH G ttC A s tag L F H locs → ((∀ b j : Nat, (tag b ≠ 26 ∨ j ≠ 13) → fld F b j = fld Fo b j) ∧ EF tag F Fo) → lv_has ls 4 [(0, .ref p0), (1, .int p1), (2, .int z54548), (3, .int z54549)] → W p l e { frames := 2, cells := 0, slots := 0, locals := 46 } s m args below meth c H locs 0 0 Q (F0 m 18 ls []) := by
    intro n
    induction n with
    | zero =>
      intro z54548 z54549 F H locs ls hn rz54549 r9s54547 hT hfr hl
      have rz54548 := rg_all z54548
      exfalso
      omega
    | succ n ih18 =>
      intro z54548 z54549 F H locs ls hn rz54549 r9s54547 hT hfr hl
      have rz54548 := rg_all z54548
      have K67 : ∀ (z54550 : Int32) (F : Nat → va_E) (H : Heap) (locs : List Loc) (ls : Array Slot), (1 ≤ z54549.toInt ∧ z54549.toInt ≤ 5) → TH G ttC A s tag L F H locs → ((∀ b j : Nat, (tag b ≠ 26 ∨ j ≠ 13) → fld F b j = fld Fo b j) ∧ EF tag F Fo) → lv_has ls 4 [(0, .ref p0), (1, .int p1), (2, .int z54550), (3, .int z54549)] → W p l e { frames := 2, cells := 0, slots := 0, locals := 46 } s m args below meth c H locs 0 0 Q (F0 m 67 ls []) := by
        intro z54550 F H locs ls r9s54551 hT hfr hl
        have rz54550 := rg_all z54550
        obtain ⟨z54552, ez54552⟩ : ∃ y : Int32, y = z54549 + 1 := ⟨_, rfl⟩
        have hz54552 : z54552.toInt = z54549.toInt + 1 := ar_add ez54552 rfl (by decide : (1 : Int32).toInt = 1) (by omega) (by omega)
        refine lv_iinc (v := z54552) (lv' := [(3, .int z54552), (0, .ref p0), (1, .int p1), (2, .int z54550)]) hx hb dX11_worth_67 hl (k := 3) rfl (by rw [ez54552]; rfl) (by decide) rfl (fun ls hl => ?_)
        refine lv_goto (tgt := 18) hx hb dX11_worth_70 (by decide) ?_
        exact ih18 z54550 z54552 _ _ _ _ (by omega) (by omega) (by omega) hT hfr  (lv_sub hl [1, 2, 3, 0] rfl)
      refine lv_iload_n hx hb dX11_worth_18 rfl (lv_at hl 3 rfl) ?_
      refine lv_aload_n hx hb dX11_worth_19 rfl (lv_at hl 0 rfl) ?_
      refine t_get (C := RX11) (T := TX11) (N := 16) X hT m0 g0 rfl rfl 5 (by decide) qw_23 inlX11 rfl dX11_worth_20 (fun v54553 hv54553 ov54553 => ?_)
      obtain ⟨b54554, rfl, mb54554, gb54554⟩ := okV_r ov54553
      have gb54554 : tag b54554 = 19 := tg_of gb54554
      refine t_get (C := RX7) (T := TX7) (N := 7) X hT mb54554 gb54554 rfl rfl 2 (by decide) qw_766 inlX7 rfl dX11_worth_23 (fun v54555 hv54555 ov54555 => ?_)
      obtain ⟨b54556, rfl, mb54556, gb54556⟩ := okV_r ov54555
      have gb54556 : tag b54556 = 8 := tg_of gb54556
      refine lv_iload_n hx hb dX11_worth_26 rfl (lv_at hl 1 rfl) ?_
      refine t_ild X hT mb54556 gb54556 rfl (by omega) dX11_worth_27 (fun z54557 vz54557 rz54557 => ?_)
      have rz54557 : 0 ≤ z54557.toInt ∧ z54557.toInt ≤ 6 := rz54557
      refine lv_icmp_ge (tgt := 73) hx hb dX11_worth_28 (by decide) (fun c54558 => ?_) (fun c54558 => ?_)
      · have w54559 := cv_le (rfl : z54557.toInt = z54557.toInt) (rfl : z54549.toInt = z54549.toInt) c54558
        refine lv_aload_n hx hb dX11_worth_73 rfl (lv_at hl 0 rfl) ?_
        refine lv_iload_n hx hb dX11_worth_74 rfl (lv_at hl 2 rfl) ?_
        refine t_cVi (n := 1) (C := RX11) (T := TX11) (N := 16) (As := [.int z54548]) (rest := []) X hT (kt56_X11_answer l G tag L F hT.2.2.2 p0 z54548 m0 g0) m0 g0 rfl rfl qw_463 qw_464 qw_465 qw_2 qw_466 ⟨rfl, by decide +kernel, by decide +kernel, by decide +kernel⟩ ⟨Nat.le_of_ble_eq_true rfl, Nat.le_of_ble_eq_true rfl⟩ hl rfl rfl (Nat.le_of_ble_eq_true rfl) dX11_worth_75 ⟨Nat.le_of_ble_eq_true rfl, Nat.le_of_ble_eq_true rfl⟩ (fun z54560 F H locs hT hz54560 => ?_)
        obtain ⟨hz54560, yz54560⟩ := hz54560
        have hv54553 := (yz54560.1 _ 5 (Or.inr (by decide))).trans hv54553
        have hv54555 := (yz54560.1 _ 2 (Or.inr (by decide))).trans hv54555
        have hfr : (∀ b j : Nat, (tag b ≠ 26 ∨ j ≠ 13) → fld F b j = fld Fo b j) ∧ EF tag F Fo := ⟨fun b j n26_13 => (yz54560.1 b j n26_13).trans (hfr.1 b j n26_13), fun b j hb => (yz54560.2 b j hb).trans (hfr.2 b j hb)⟩
        exact t_iret hQ X hT (⟨rg_all _, hfr⟩) (Nat.le_of_ble_eq_true rfl) (Nat.le_of_ble_eq_true rfl) dX11_worth_78
      · have w54561 := cv_nle (rfl : z54557.toInt = z54557.toInt) (rfl : z54549.toInt = z54549.toInt) c54558
        refine lv_aload_n hx hb dX11_worth_31 rfl (lv_at hl 0 rfl) ?_
        refine t_get (C := RX11) (T := TX11) (N := 16) X hT m0 g0 rfl rfl 5 (by decide) qw_23 inlX11 rfl dX11_worth_32 (fun v54562 hv54562 ov54562 => ?_)
        obtain rfl : v54562 = .ref b54554 := hv54562.symm.trans hv54553
        refine lv_iload_n hx hb dX11_worth_35 rfl (lv_at hl 1 rfl) ?_
        refine lv_iload_n hx hb dX11_worth_36 rfl (lv_at hl 3 rfl) ?_
        refine t_cVi (n := 2) (C := RX7) (T := TX7) (N := 7) (As := [.int p1, .int z54549]) (rest := []) X hT (kt18_X7_stands l G tag L F hT.2.2.2 b54554 p1 z54549 mb54554 gb54554) mb54554 gb54554 rfl rfl qw_852 qw_853 qw_854 qw_22 qw_855 ⟨rfl, by decide +kernel, by decide +kernel, by decide +kernel⟩ ⟨Nat.le_of_ble_eq_true rfl, Nat.le_of_ble_eq_true rfl⟩ hl rfl rfl (Nat.le_of_ble_eq_true rfl) dX11_worth_37 ⟨Nat.le_of_ble_eq_true rfl, Nat.le_of_ble_eq_true rfl⟩ (fun z54563 F9 H locs hT hz54563 => ?_)
        obtain ⟨fz54563, hz54563⟩ := hz54563
        rw [fz54563] at hT
        refine lv_if_eq (tgt := 67) hx hb dX11_worth_40 (by decide) (fun c54564 => ?_) (fun c54564 => ?_)
        · have w54565 := cv_eq (rfl : z54563.toInt = z54563.toInt) (by decide : (0 : Int32).toInt = 0) c54564
          exact K67 z54548 _ _ _ _ (by omega) hT hfr  (lv_sub hl [0, 1, 2, 3] rfl)
        · have w54566 := cv_ne (rfl : z54563.toInt = z54563.toInt) (by decide : (0 : Int32).toInt = 0) c54564
          refine lv_aload_n hx hb dX11_worth_43 rfl (lv_at hl 0 rfl) ?_
          refine lv_iload_n hx hb dX11_worth_44 rfl (lv_at hl 1 rfl) ?_
          refine lv_iload_n hx hb dX11_worth_45 rfl (lv_at hl 3 rfl) ?_
          refine t_cVi (n := 2) (C := RX11) (T := TX11) (N := 16) (As := [.int p1, .int z54549]) (rest := []) X hT (kt76_X11_isLivedIn l G tag L F hT.2.2.2 p0 p1 z54549 m0 g0) m0 g0 rfl rfl qw_1316 qw_1317 qw_1318 qw_2 qw_1319 ⟨rfl, by decide +kernel, by decide +kernel, by decide +kernel⟩ ⟨Nat.le_of_ble_eq_true rfl, Nat.le_of_ble_eq_true rfl⟩ hl rfl rfl (Nat.le_of_ble_eq_true rfl) dX11_worth_46 ⟨Nat.le_of_ble_eq_true rfl, Nat.le_of_ble_eq_true rfl⟩ (fun z54567 F9 H locs hT hz54567 => ?_)
          obtain ⟨fz54567, hz54567⟩ := hz54567
          rw [fz54567] at hT
          refine lv_if_eq (tgt := 58) hx hb dX11_worth_49 (by decide) (fun c54568 => ?_) (fun c54568 => ?_)
          · have w54569 := cv_eq (rfl : z54567.toInt = z54567.toInt) (by decide : (0 : Int32).toInt = 0) c54568
            refine lv_iload_n hx hb dX11_worth_58 rfl (lv_at hl 2 rfl) ?_
            refine lv_aload_n hx hb dX11_worth_59 rfl (lv_at hl 0 rfl) ?_
            refine lv_iload_n hx hb dX11_worth_60 rfl (lv_at hl 1 rfl) ?_
            refine lv_iload_n hx hb dX11_worth_61 rfl (lv_at hl 3 rfl) ?_
            refine t_cVi (n := 2) (C := RX11) (T := TX11) (N := 16) (As := [.int p1, .int z54549]) (rest := [.int z54548]) X hT (kt84_X11_goldIn l G tag L F hT.2.2.2 p0 p1 z54549 m0 g0) m0 g0 rfl rfl qw_1296 qw_1297 qw_1298 qw_2 qw_1299 ⟨rfl, by decide +kernel, by decide +kernel, by decide +kernel⟩ ⟨Nat.le_of_ble_eq_true rfl, Nat.le_of_ble_eq_true rfl⟩ hl rfl rfl (Nat.le_of_ble_eq_true rfl) dX11_worth_62 ⟨Nat.le_of_ble_eq_true rfl, Nat.le_of_ble_eq_true rfl⟩ (fun z54570 F9 H locs hT hz54570 => ?_)
            obtain ⟨fz54570, hz54570⟩ := hz54570
            rw [fz54570] at hT
            refine lv_iadd hx hb dX11_worth_65 ?_
            refine lv_topi (fun z54571 ez54571 => ?_)
            have rz54571 := rg_all z54571
            refine lv_istore_n (lv' := [(2, .int z54571), (0, .ref p0), (1, .int p1), (3, .int z54549)]) hx hb dX11_worth_66 rfl hl (by decide) rfl (fun ls hl => ?_)
            exact K67 z54571 _ _ _ _ (by omega) hT hfr  (lv_sub hl [1, 2, 0, 3] rfl)
          · have w54572 := cv_ne (rfl : z54567.toInt = z54567.toInt) (by decide : (0 : Int32).toInt = 0) c54568
            refine lv_aload_n hx hb dX11_worth_52 rfl (lv_at hl 0 rfl) ?_
            refine lv_iload_n hx hb dX11_worth_53 rfl (lv_at hl 2 rfl) ?_
            refine t_cVi (n := 1) (C := RX11) (T := TX11) (N := 16) (As := [.int z54548]) (rest := []) X hT (kt56_X11_answer l G tag L F hT.2.2.2 p0 z54548 m0 g0) m0 g0 rfl rfl qw_463 qw_464 qw_465 qw_2 qw_466 ⟨rfl, by decide +kernel, by decide +kernel, by decide +kernel⟩ ⟨Nat.le_of_ble_eq_true rfl, Nat.le_of_ble_eq_true rfl⟩ hl rfl rfl (Nat.le_of_ble_eq_true rfl) dX11_worth_54 ⟨Nat.le_of_ble_eq_true rfl, Nat.le_of_ble_eq_true rfl⟩ (fun z54573 F H locs hT hz54573 => ?_)
            obtain ⟨hz54573, yz54573⟩ := hz54573
            have hv54553 := (yz54573.1 _ 5 (Or.inr (by decide))).trans hv54553
            have hv54555 := (yz54573.1 _ 2 (Or.inr (by decide))).trans hv54555
            have hfr : (∀ b j : Nat, (tag b ≠ 26 ∨ j ≠ 13) → fld F b j = fld Fo b j) ∧ EF tag F Fo := ⟨fun b j n26_13 => (yz54573.1 b j n26_13).trans (hfr.1 b j n26_13), fun b j hb => (yz54573.2 b j hb).trans (hfr.2 b j hb)⟩
            exact t_iret hQ X hT (⟨rg_all _, hfr⟩) (Nat.le_of_ble_eq_true rfl) (Nat.le_of_ble_eq_true rfl) dX11_worth_57
  refine lv_aload_n hx hb dX11_worth_0 rfl (lv_at hl 0 rfl) ?_
  refine lv_iload_n hx hb dX11_worth_1 rfl (lv_at hl 1 rfl) ?_
  refine t_cVi (n := 1) (C := RX11) (T := TX11) (N := 16) (As := [.int p1]) (rest := []) X hT (kt61_X11_isHouse l G tag L F hT.2.2.2 p0 p1 m0 g0) m0 g0 rfl rfl qw_770 qw_771 qw_772 qw_2 qw_773 ⟨rfl, by decide +kernel, by decide +kernel, by decide +kernel⟩ ⟨Nat.le_of_ble_eq_true rfl, Nat.le_of_ble_eq_true rfl⟩ hl rfl rfl (Nat.le_of_ble_eq_true rfl) dX11_worth_2 ⟨Nat.le_of_ble_eq_true rfl, Nat.le_of_ble_eq_true rfl⟩ (fun z54574 F9 H locs hT hz54574 => ?_)
  obtain ⟨fz54574, hz54574⟩ := hz54574
  rw [fz54574] at hT
  obtain ⟨hz54574, iz54574⟩ := hz54574
  refine lv_if_ne (tgt := 14) hx hb dX11_worth_5 (by decide) (fun c54575 => ?_) (fun c54575 => ?_)
  · have w54576 := cv_ne (rfl : z54574.toInt = z54574.toInt) (by decide : (0 : Int32).toInt = 0) c54575
    have w54577 := (fun h => (iz54574 h)) (by omega)
    refine lv_iconst (v := 0) hx hb dX11_worth_14 (by decide) ?_
    refine lv_istore_n (lv' := [(2, .int 0), (0, .ref p0), (1, .int p1)]) hx hb dX11_worth_15 rfl hl (by decide) rfl (fun ls hl => ?_)
    refine lv_iconst (v := 1) hx hb dX11_worth_16 (by decide) ?_
    refine lv_istore_n (lv' := [(3, .int 1), (2, .int 0), (0, .ref p0), (1, .int p1)]) hx hb dX11_worth_17 rfl hl (by decide) rfl (fun ls hl => ?_)
    have kk54578 : (0 : Int32).toInt = 0 := by decide
    have kk54579 : (1 : Int32).toInt = 1 := by decide
    exact K18 6 0 1 _ _ _ _ (by omega) (by decide) (by omega) hT hfr  (lv_sub hl [2, 3, 1, 0] rfl)
  · have w54580 := cv_eq (rfl : z54574.toInt = z54574.toInt) (by decide : (0 : Int32).toInt = 0) c54575
    refine lv_aload_n hx hb dX11_worth_8 rfl (lv_at hl 0 rfl) ?_
    refine lv_iconst (v := 1) hx hb dX11_worth_9 (by decide) ?_
    refine t_cVi (n := 1) (C := RX11) (T := TX11) (N := 16) (As := [.int 1]) (rest := []) X hT (kt63_X11_refuse l G tag L F hT.2.2.2 p0 1 m0 g0) m0 g0 rfl rfl qw_152 qw_153 qw_154 qw_2 qw_155 ⟨rfl, by decide +kernel, by decide +kernel, by decide +kernel⟩ ⟨Nat.le_of_ble_eq_true rfl, Nat.le_of_ble_eq_true rfl⟩ hl rfl rfl (Nat.le_of_ble_eq_true rfl) dX11_worth_10 ⟨Nat.le_of_ble_eq_true rfl, Nat.le_of_ble_eq_true rfl⟩ (fun z54581 F H locs hT hz54581 => ?_)
    obtain ⟨hz54581, yz54581⟩ := hz54581
    have hfr : (∀ b j : Nat, (tag b ≠ 26 ∨ j ≠ 13) → fld F b j = fld Fo b j) ∧ EF tag F Fo := ⟨fun b j n26_13 => (yz54581.1 b j n26_13).trans (hfr.1 b j n26_13), fun b j hb => (yz54581.2 b j hb).trans (hfr.2 b j hb)⟩
    exact t_iret hQ X hT (⟨rg_all _, hfr⟩) (Nat.le_of_ble_eq_true rfl) (Nat.le_of_ble_eq_true rfl) dX11_worth_13
set_option maxHeartbeats 4000000 in
set_option maxRecDepth 100000 in
theorem kt153_X11_years (l : Launch) (G : KG) (tag : Nat → Nat) (L : List Nat) (Fo : Nat → va_E) (ho : okT G ttC tag L Fo) (p0 : Nat) (p1 : Int32) (m0 : p0 ∈ L) (g0 : tag p0 = 26) : TMi l yX11_years cX11_years 3 (some .int) { frames := 6, cells := 0, slots := 0, locals := 157 } G ttC tag L Fo [.ref p0, .int p1] (fun r F1 => ((-2147483648) ≤ r.toInt ∧ r.toInt ≤ 2147483647) ∧ ((∀ b j : Nat, (tag b ≠ 19 ∨ j ≠ 0) → (tag b ≠ 19 ∨ j ≠ 1) → (tag b ≠ 23 ∨ j ≠ 2) → (tag b ≠ 23 ∨ j ≠ 3) → (tag b ≠ 26 ∨ j ≠ 13) → fld F1 b j = fld Fo b j) ∧ EF tag F1 Fo)) := by
  refine t_bodyi (y := yX11_years) (cd := cX11_years) (mL := 3) (rt := (some .int)) (rm := { frames := 6, cells := 0, slots := 0, locals := 157 }) (av := [.ref p0, .int p1]) (by decide) (Nat.le_of_ble_eq_true rfl) ho ?_
  intro p e s m args below meth c ls A Q hQ X hT hl
  have hx := X.1.1
  have hb := X.1.2.1
  have hl : lv_has ls 3 [(0, .ref p0), (1, .int p1)] := hl
  have rp1 := rg_all p1
  obtain ⟨F, hFo⟩ : ∃ F : Nat → va_E, F = Fo := ⟨_, rfl⟩
  rw [← hFo] at hT
  have hfr : (∀ b j : Nat, (tag b ≠ 19 ∨ j ≠ 0) → (tag b ≠ 19 ∨ j ≠ 1) → (tag b ≠ 23 ∨ j ≠ 2) → (tag b ≠ 23 ∨ j ≠ 3) → (tag b ≠ 26 ∨ j ≠ 13) → fld F b j = fld Fo b j) ∧ EF tag F Fo := by
    rw [hFo]
    exact ⟨by intros; rfl, fun _ _ _ => rfl⟩
  have K24 : ∀ (z55237 : Int32) (F : Nat → va_E) (H : Heap) (locs : List Loc) (ls : Array Slot), (1 ≤ z55237.toInt ∧ z55237.toInt ≤ 1) → TH G ttC A s tag L F H locs → ((∀ b j : Nat, (tag b ≠ 19 ∨ j ≠ 0) → (tag b ≠ 19 ∨ j ≠ 1) → (tag b ≠ 23 ∨ j ≠ 2) → (tag b ≠ 23 ∨ j ≠ 3) → (tag b ≠ 26 ∨ j ≠ 13) → fld F b j = fld Fo b j) ∧ EF tag F Fo) → fld F p0 2 = .int z55237 → lv_has ls 3 [(0, .ref p0), (1, .int p1)] → W p l e { frames := 6, cells := 0, slots := 0, locals := 157 } s m args below meth c H locs 0 0 Q (F0 m 24 ls []) := by
    intro z55237 F H locs ls rz55237 hT hfr qz55237 hl
    refine lv_aload_n hx hb dX11_years_24 rfl (lv_at hl 0 rfl) ?_
    refine lv_iconst (v := 2) hx hb dX11_years_25 (by decide) ?_
    refine t_cVi (n := 1) (C := RX11) (T := TX11) (N := 16) (As := [.int 2]) (rest := []) X hT (kt63_X11_refuse l G tag L F hT.2.2.2 p0 2 m0 g0) m0 g0 rfl rfl qw_152 qw_153 qw_154 qw_2 qw_155 ⟨rfl, by decide +kernel, by decide +kernel, by decide +kernel⟩ ⟨Nat.le_of_ble_eq_true rfl, Nat.le_of_ble_eq_true rfl⟩ hl rfl rfl (Nat.le_of_ble_eq_true rfl) dX11_years_26 ⟨Nat.le_of_ble_eq_true rfl, Nat.le_of_ble_eq_true rfl⟩ (fun z55238 F H locs hT hz55238 => ?_)
    obtain ⟨hz55238, yz55238⟩ := hz55238
    have qz55237 := (yz55238.1 _ 2 (Or.inr (by decide))).trans qz55237
    have hfr : (∀ b j : Nat, (tag b ≠ 19 ∨ j ≠ 0) → (tag b ≠ 19 ∨ j ≠ 1) → (tag b ≠ 23 ∨ j ≠ 2) → (tag b ≠ 23 ∨ j ≠ 3) → (tag b ≠ 26 ∨ j ≠ 13) → fld F b j = fld Fo b j) ∧ EF tag F Fo := ⟨fun b j n19_0 n19_1 n23_2 n23_3 n26_13 => (yz55238.1 b j n26_13).trans (hfr.1 b j n19_0 n19_1 n23_2 n23_3 n26_13), fun b j hb => (yz55238.2 b j hb).trans (hfr.2 b j hb)⟩
    exact t_iret hQ X hT (⟨rg_all _, hfr⟩) (Nat.le_of_ble_eq_true rfl) (Nat.le_of_ble_eq_true rfl) dX11_years_29
  have K64 : ∀ (n : Nat) (z55240 : Int32) (z55241 : Int32) (F : Nat → va_E) (H : Heap) (locs : List Loc) (ls : Array Slot), (20 - z55240.toInt < (n : Int)) → (0 ≤ z55240.toInt ∧ z55240.toInt ≤ 20) → (1 ≤ z55241.toInt ∧ z55241.toInt ≤ 1) → (1 ≤ p1.toInt ∧ p1.toInt ≤ 20) → TH G ttC A s tag L F H locs → ((∀ b j : Nat, (tag b ≠ 19 ∨ j ≠ 0) → (tag b ≠ 19 ∨ j ≠ 1) → (tag b ≠ 23 ∨ j ≠ 2) → (tag b ≠ 23 ∨ j ≠ 3) → (tag b ≠ 26 ∨ j ≠ 13) → fld F b j = fld Fo b j) ∧ EF tag F Fo) → fld F p0 2 = .int z55241 → lv_has ls 3 [(0, .ref p0), (1, .int p1), (2, .int z55240)] → W p l e { frames := 6, cells := 0, slots := 0, locals := 157 } s m args below meth c H locs 0 0 Q (F0 m 64 ls []) := by
    intro n
    induction n with
    | zero =>
      intro z55240 z55241 F H locs ls hn rz55240 rz55241 r9s55239 hT hfr qz55241 hl
      exfalso
      omega
    | succ n ih64 =>
      intro z55240 z55241 F H locs ls hn rz55240 rz55241 r9s55239 hT hfr qz55241 hl
      refine lv_iload_n hx hb dX11_years_64 rfl (lv_at hl 2 rfl) ?_
      refine lv_iload_n hx hb dX11_years_65 rfl (lv_at hl 1 rfl) ?_
      refine lv_icmp_ge (tgt := 89) hx hb dX11_years_66 (by decide) (fun c55242 => ?_) (fun c55242 => ?_)
      · have w55243 := cv_le (rfl : p1.toInt = p1.toInt) (rfl : z55240.toInt = z55240.toInt) c55242
        refine lv_aload_n hx hb dX11_years_89 rfl (lv_at hl 0 rfl) ?_
        refine lv_aload_n hx hb dX11_years_90 rfl (lv_at hl 0 rfl) ?_
        refine t_get (C := RX11) (T := TX11) (N := 16) X hT m0 g0 rfl rfl 5 (by decide) qw_23 inlX11 rfl dX11_years_91 (fun v55244 hv55244 ov55244 => ?_)
        obtain ⟨b55245, rfl, mb55245, gb55245⟩ := okV_r ov55244
        have gb55245 : tag b55245 = 19 := tg_of gb55245
        refine t_cVi (n := 0) (C := RX7) (T := TX7) (N := 7) (As := []) (rest := [.ref p0]) X hT (kt23_X7_skinsOfAll l G tag L F hT.2.2.2 b55245 mb55245 gb55245) mb55245 gb55245 rfl rfl qw_1182 qw_1183 qw_1184 qw_22 qw_1185 ⟨rfl, by decide +kernel, by decide +kernel, by decide +kernel⟩ ⟨Nat.le_of_ble_eq_true rfl, Nat.le_of_ble_eq_true rfl⟩ hl rfl rfl (Nat.le_of_ble_eq_true rfl) dX11_years_94 ⟨Nat.le_of_ble_eq_true rfl, Nat.le_of_ble_eq_true rfl⟩ (fun z55246 F9 H locs hT hz55246 => ?_)
        obtain ⟨fz55246, hz55246⟩ := hz55246
        rw [fz55246] at hT
        refine t_cVi (n := 1) (C := RX11) (T := TX11) (N := 16) (As := [.int z55246]) (rest := []) X hT (kt56_X11_answer l G tag L F hT.2.2.2 p0 z55246 m0 g0) m0 g0 rfl rfl qw_463 qw_464 qw_465 qw_2 qw_466 ⟨rfl, by decide +kernel, by decide +kernel, by decide +kernel⟩ ⟨Nat.le_of_ble_eq_true rfl, Nat.le_of_ble_eq_true rfl⟩ hl rfl rfl (Nat.le_of_ble_eq_true rfl) dX11_years_97 ⟨Nat.le_of_ble_eq_true rfl, Nat.le_of_ble_eq_true rfl⟩ (fun z55247 F H locs hT hz55247 => ?_)
        obtain ⟨hz55247, yz55247⟩ := hz55247
        have qz55241 := (yz55247.1 _ 2 (Or.inr (by decide))).trans qz55241
        have hv55244 := (yz55247.1 _ 5 (Or.inr (by decide))).trans hv55244
        have hfr : (∀ b j : Nat, (tag b ≠ 19 ∨ j ≠ 0) → (tag b ≠ 19 ∨ j ≠ 1) → (tag b ≠ 23 ∨ j ≠ 2) → (tag b ≠ 23 ∨ j ≠ 3) → (tag b ≠ 26 ∨ j ≠ 13) → fld F b j = fld Fo b j) ∧ EF tag F Fo := ⟨fun b j n19_0 n19_1 n23_2 n23_3 n26_13 => (yz55247.1 b j n26_13).trans (hfr.1 b j n19_0 n19_1 n23_2 n23_3 n26_13), fun b j hb => (yz55247.2 b j hb).trans (hfr.2 b j hb)⟩
        exact t_iret hQ X hT (⟨rg_all _, hfr⟩) (Nat.le_of_ble_eq_true rfl) (Nat.le_of_ble_eq_true rfl) dX11_years_100
      · have w55248 := cv_nle (rfl : p1.toInt = p1.toInt) (rfl : z55240.toInt = z55240.toInt) c55242
        refine lv_aload_n hx hb dX11_years_69 rfl (lv_at hl 0 rfl) ?_
        refine t_get (C := RX11) (T := TX11) (N := 16) X hT m0 g0 rfl rfl 3 (by decide) qw_18 inlX11 rfl dX11_years_70 (fun v55249 hv55249 ov55249 => ?_)
        obtain ⟨b55250, rfl, mb55250, gb55250⟩ := okV_r ov55249
        have gb55250 : tag b55250 = 18 := tg_of gb55250
        refine lv_aload_n hx hb dX11_years_73 rfl (lv_at hl 0 rfl) ?_
        refine t_get (C := RX11) (T := TX11) (N := 16) X hT m0 g0 rfl rfl 5 (by decide) qw_23 inlX11 rfl dX11_years_74 (fun v55251 hv55251 ov55251 => ?_)
        obtain ⟨b55252, rfl, mb55252, gb55252⟩ := okV_r ov55251
        have gb55252 : tag b55252 = 19 := tg_of gb55252
        refine t_gets X hT X.2.2.2.1.2.1.2.2.2 qw_1096 dX11_years_77 ?_
        refine t_cSv (n := 3) (As := [.ref b55250, .ref b55252, .ref (G.2 13)]) (rest := []) X hT (kt71_X10_pass l G tag L F hT.2.2.2 b55250 b55252 mb55250 gb55250 mb55252 gb55252) qw_1097 qw_1098 qw_32 qw_1099 ⟨by decide +kernel, by decide +kernel, by decide +kernel⟩ ⟨Nat.le_of_ble_eq_true rfl, Nat.le_of_ble_eq_true rfl⟩ hl rfl rfl (Nat.le_of_ble_eq_true rfl) dX11_years_80 ⟨Nat.le_of_ble_eq_true rfl, Nat.le_of_ble_eq_true rfl⟩ (fun F H locs hT hz55253 => ?_)
        have yz55253 := hz55253
        have qz55241 := (yz55253.1 _ 2 (Or.inr (by decide)) (Or.inr (by decide))).trans qz55241
        have hv55249 := (yz55253.1 _ 3 (Or.inr (by decide)) (Or.inr (by decide))).trans hv55249
        have hv55251 := (yz55253.1 _ 5 (Or.inr (by decide)) (Or.inr (by decide))).trans hv55251
        have hfr : (∀ b j : Nat, (tag b ≠ 19 ∨ j ≠ 0) → (tag b ≠ 19 ∨ j ≠ 1) → (tag b ≠ 23 ∨ j ≠ 2) → (tag b ≠ 23 ∨ j ≠ 3) → (tag b ≠ 26 ∨ j ≠ 13) → fld F b j = fld Fo b j) ∧ EF tag F Fo := ⟨fun b j n19_0 n19_1 n23_2 n23_3 n26_13 => (yz55253.1 b j n19_0 n19_1).trans (hfr.1 b j n19_0 n19_1 n23_2 n23_3 n26_13), fun b j hb => (yz55253.2 b j hb).trans (hfr.2 b j hb)⟩
        obtain ⟨z55254, ez55254⟩ : ∃ y : Int32, y = z55240 + 1 := ⟨_, rfl⟩
        have hz55254 : z55254.toInt = z55240.toInt + 1 := ar_add ez55254 rfl (by decide : (1 : Int32).toInt = 1) (by omega) (by omega)
        refine lv_iinc (v := z55254) (lv' := [(2, .int z55254), (0, .ref p0), (1, .int p1)]) hx hb dX11_years_83 hl (k := 2) rfl (by rw [ez55254]; rfl) (by decide) rfl (fun ls hl => ?_)
        refine lv_goto (tgt := 64) hx hb dX11_years_86 (by decide) ?_
        exact ih64 z55254 z55241 _ _ _ _ (by omega) (by omega) (by omega) (by omega) hT hfr qz55241 (lv_sub hl [1, 2, 0] rfl)
  refine lv_aload_n hx hb dX11_years_0 rfl (lv_at hl 0 rfl) ?_
  refine t_get (C := RX11) (T := TX11) (N := 16) X hT m0 g0 rfl rfl 2 (by decide) qw_150 inlX11 rfl dX11_years_1 (fun v55255 hv55255 ov55255 => ?_)
  obtain ⟨z55256, rfl, rz55256⟩ := okV_i ov55255
  refine lv_if_ne (tgt := 13) hx hb dX11_years_4 (by decide) (fun c55257 => ?_) (fun c55257 => ?_)
  · have w55258 := cv_ne (rfl : z55256.toInt = z55256.toInt) (by decide : (0 : Int32).toInt = 0) c55257
    refine lv_iload_n hx hb dX11_years_13 rfl (lv_at hl 1 rfl) ?_
    refine lv_iconst (v := 1) hx hb dX11_years_14 (by decide) ?_
    refine lv_icmp_lt (tgt := 24) hx hb dX11_years_15 (by decide) (fun c55259 => ?_) (fun c55259 => ?_)
    · have w55260 := cv_lt (rfl : p1.toInt = p1.toInt) (by decide : (1 : Int32).toInt = 1) c55259
      exact K24 z55256 _ _ _ _ (by omega) hT hfr hv55255 (lv_sub hl [0, 1] rfl)
    · have w55261 := cv_nlt (rfl : p1.toInt = p1.toInt) (by decide : (1 : Int32).toInt = 1) c55259
      refine lv_iload_n hx hb dX11_years_18 rfl (lv_at hl 1 rfl) ?_
      refine lv_bipush (v := 20) hx hb dX11_years_19 (by decide) ?_
      refine lv_icmp_le (tgt := 30) hx hb dX11_years_21 (by decide) (fun c55262 => ?_) (fun c55262 => ?_)
      · have w55263 := cv_le (rfl : p1.toInt = p1.toInt) (by decide : (20 : Int32).toInt = 20) c55262
        refine lv_aload_n hx hb dX11_years_30 rfl (lv_at hl 0 rfl) ?_
        refine t_get (C := RX11) (T := TX11) (N := 16) X hT m0 g0 rfl rfl 5 (by decide) qw_23 inlX11 rfl dX11_years_31 (fun v55264 hv55264 ov55264 => ?_)
        obtain ⟨b55265, rfl, mb55265, gb55265⟩ := okV_r ov55264
        have gb55265 : tag b55265 = 19 := tg_of gb55265
        refine t_get (C := RX7) (T := TX7) (N := 7) X hT mb55265 gb55265 rfl rfl 0 (by decide) qw_1225 inlX7 rfl dX11_years_34 (fun v55266 hv55266 ov55266 => ?_)
        obtain ⟨z55267, rfl, rz55267⟩ := okV_i ov55266
        refine lv_iload_n hx hb dX11_years_37 rfl (lv_at hl 1 rfl) ?_
        refine lv_iadd hx hb dX11_years_38 ?_
        refine lv_topi (fun z55268 ez55268 => ?_)
        have rz55268 := rg_all z55268
        refine lv_sipush (v := 999) hx hb dX11_years_39 (by decide) ?_
        refine lv_icmp_le (tgt := 51) hx hb dX11_years_42 (by decide) (fun c55269 => ?_) (fun c55269 => ?_)
        · have w55270 := cv_le (rfl : z55268.toInt = z55268.toInt) (by decide : (999 : Int32).toInt = 999) c55269
          refine lv_aload_n hx hb dX11_years_51 rfl (lv_at hl 0 rfl) ?_
          refine t_get (C := RX11) (T := TX11) (N := 16) X hT m0 g0 rfl rfl 12 (by decide) qw_45 inlX11 rfl dX11_years_52 (fun v55271 hv55271 ov55271 => ?_)
          obtain ⟨b55272, rfl, mb55272, gb55272⟩ := okV_r ov55271
          have gb55272 : tag b55272 = 23 := tg_of gb55272
          refine lv_aload_n hx hb dX11_years_55 rfl (lv_at hl 0 rfl) ?_
          refine t_get (C := RX11) (T := TX11) (N := 16) X hT m0 g0 rfl rfl 5 (by decide) qw_23 inlX11 rfl dX11_years_56 (fun v55273 hv55273 ov55273 => ?_)
          obtain rfl : v55273 = .ref b55265 := hv55273.symm.trans hv55264
          refine t_cVv (n := 1) (C := RX2) (T := TX2) (N := 5) (As := [.ref b55265]) (rest := []) X hT (kt66_X2_keep l G tag L F hT.2.2.2 b55272 b55265 mb55272 gb55272 mb55265 gb55265) mb55272 gb55272 rfl rfl qw_1427 qw_1428 qw_1429 qw_44 qw_1430 ⟨rfl, by decide +kernel, by decide +kernel, by decide +kernel⟩ ⟨Nat.le_of_ble_eq_true rfl, Nat.le_of_ble_eq_true rfl⟩ hl rfl rfl (Nat.le_of_ble_eq_true rfl) dX11_years_59 ⟨Nat.le_of_ble_eq_true rfl, Nat.le_of_ble_eq_true rfl⟩ (fun F H locs hT hz55274 => ?_)
          have yz55274 := hz55274
          have hv55255 := (yz55274.1 _ 2 (Or.inr (by decide)) (Or.inr (by decide)) (Or.inl (by rw [g0]; decide)) (Or.inr (by decide))).trans hv55255
          have hv55264 := (yz55274.1 _ 5 (Or.inr (by decide)) (Or.inr (by decide)) (Or.inr (by decide)) (Or.inr (by decide))).trans hv55264
          have hv55271 := (yz55274.1 _ 12 (Or.inr (by decide)) (Or.inr (by decide)) (Or.inr (by decide)) (Or.inr (by decide))).trans hv55271
          have hfr : (∀ b j : Nat, (tag b ≠ 19 ∨ j ≠ 0) → (tag b ≠ 19 ∨ j ≠ 1) → (tag b ≠ 23 ∨ j ≠ 2) → (tag b ≠ 23 ∨ j ≠ 3) → (tag b ≠ 26 ∨ j ≠ 13) → fld F b j = fld Fo b j) ∧ EF tag F Fo := ⟨fun b j n19_0 n19_1 n23_2 n23_3 n26_13 => (yz55274.1 b j n19_0 n19_1 n23_2 n23_3).trans (hfr.1 b j n19_0 n19_1 n23_2 n23_3 n26_13), fun b j hb => (yz55274.2 b j hb).trans (hfr.2 b j hb)⟩
          refine lv_iconst (v := 0) hx hb dX11_years_62 (by decide) ?_
          refine lv_istore_n (lv' := [(2, .int 0), (0, .ref p0), (1, .int p1)]) hx hb dX11_years_63 rfl hl (by decide) rfl (fun ls hl => ?_)
          have kk55275 : (0 : Int32).toInt = 0 := by decide
          exact K64 21 0 z55256 _ _ _ _ (by omega) (by decide) (by omega) (by omega) hT hfr hv55255 (lv_sub hl [1, 2, 0] rfl)
        · have w55276 := cv_nle (rfl : z55268.toInt = z55268.toInt) (by decide : (999 : Int32).toInt = 999) c55269
          refine lv_aload_n hx hb dX11_years_45 rfl (lv_at hl 0 rfl) ?_
          refine lv_iconst (v := 3) hx hb dX11_years_46 (by decide) ?_
          refine t_cVi (n := 1) (C := RX11) (T := TX11) (N := 16) (As := [.int 3]) (rest := []) X hT (kt63_X11_refuse l G tag L F hT.2.2.2 p0 3 m0 g0) m0 g0 rfl rfl qw_152 qw_153 qw_154 qw_2 qw_155 ⟨rfl, by decide +kernel, by decide +kernel, by decide +kernel⟩ ⟨Nat.le_of_ble_eq_true rfl, Nat.le_of_ble_eq_true rfl⟩ hl rfl rfl (Nat.le_of_ble_eq_true rfl) dX11_years_47 ⟨Nat.le_of_ble_eq_true rfl, Nat.le_of_ble_eq_true rfl⟩ (fun z55277 F H locs hT hz55277 => ?_)
          obtain ⟨hz55277, yz55277⟩ := hz55277
          have hv55255 := (yz55277.1 _ 2 (Or.inr (by decide))).trans hv55255
          have hv55264 := (yz55277.1 _ 5 (Or.inr (by decide))).trans hv55264
          have hv55266 := (yz55277.1 _ 0 (Or.inr (by decide))).trans hv55266
          have hfr : (∀ b j : Nat, (tag b ≠ 19 ∨ j ≠ 0) → (tag b ≠ 19 ∨ j ≠ 1) → (tag b ≠ 23 ∨ j ≠ 2) → (tag b ≠ 23 ∨ j ≠ 3) → (tag b ≠ 26 ∨ j ≠ 13) → fld F b j = fld Fo b j) ∧ EF tag F Fo := ⟨fun b j n19_0 n19_1 n23_2 n23_3 n26_13 => (yz55277.1 b j n26_13).trans (hfr.1 b j n19_0 n19_1 n23_2 n23_3 n26_13), fun b j hb => (yz55277.2 b j hb).trans (hfr.2 b j hb)⟩
          exact t_iret hQ X hT (⟨rg_all _, hfr⟩) (Nat.le_of_ble_eq_true rfl) (Nat.le_of_ble_eq_true rfl) dX11_years_50
      · have w55278 := cv_nle (rfl : p1.toInt = p1.toInt) (by decide : (20 : Int32).toInt = 20) c55262
        exact K24 z55256 _ _ _ _ (by omega) hT hfr hv55255 (lv_sub hl [0, 1] rfl)
  · have w55279 := cv_eq (rfl : z55256.toInt = z55256.toInt) (by decide : (0 : Int32).toInt = 0) c55257
    refine lv_aload_n hx hb dX11_years_7 rfl (lv_at hl 0 rfl) ?_
    refine lv_iconst (v := 1) hx hb dX11_years_8 (by decide) ?_
    refine t_cVi (n := 1) (C := RX11) (T := TX11) (N := 16) (As := [.int 1]) (rest := []) X hT (kt63_X11_refuse l G tag L F hT.2.2.2 p0 1 m0 g0) m0 g0 rfl rfl qw_152 qw_153 qw_154 qw_2 qw_155 ⟨rfl, by decide +kernel, by decide +kernel, by decide +kernel⟩ ⟨Nat.le_of_ble_eq_true rfl, Nat.le_of_ble_eq_true rfl⟩ hl rfl rfl (Nat.le_of_ble_eq_true rfl) dX11_years_9 ⟨Nat.le_of_ble_eq_true rfl, Nat.le_of_ble_eq_true rfl⟩ (fun z55280 F H locs hT hz55280 => ?_)
    obtain ⟨hz55280, yz55280⟩ := hz55280
    have hv55255 := (yz55280.1 _ 2 (Or.inr (by decide))).trans hv55255
    have hfr : (∀ b j : Nat, (tag b ≠ 19 ∨ j ≠ 0) → (tag b ≠ 19 ∨ j ≠ 1) → (tag b ≠ 23 ∨ j ≠ 2) → (tag b ≠ 23 ∨ j ≠ 3) → (tag b ≠ 26 ∨ j ≠ 13) → fld F b j = fld Fo b j) ∧ EF tag F Fo := ⟨fun b j n19_0 n19_1 n23_2 n23_3 n26_13 => (yz55280.1 b j n26_13).trans (hfr.1 b j n19_0 n19_1 n23_2 n23_3 n26_13), fun b j hb => (yz55280.2 b j hb).trans (hfr.2 b j hb)⟩
    exact t_iret hQ X hT (⟨rg_all _, hfr⟩) (Nat.le_of_ble_eq_true rfl) (Nat.le_of_ble_eq_true rfl) dX11_years_12
set_option maxHeartbeats 4000000 in
set_option maxRecDepth 100000 in
theorem kt154_X2_forget (l : Launch) (G : KG) (tag : Nat → Nat) (L : List Nat) (Fo : Nat → va_E) (ho : okT G ttC tag L Fo) (p0 : Nat) (m0 : p0 ∈ L) (g0 : tag p0 = 23) : TMv l yX2_forget cX2_forget 1 { frames := 0, cells := 0, slots := 0, locals := 0 } G ttC tag L Fo [.ref p0] (fun F1 => ((∀ b j : Nat, (tag b ≠ 23 ∨ j ≠ 3) → (tag b ≠ 23 ∨ j ≠ 4) → fld F1 b j = fld Fo b j) ∧ EF tag F1 Fo)) := by
  refine t_bodyv (y := yX2_forget) (cd := cX2_forget) (mL := 1) (rm := { frames := 0, cells := 0, slots := 0, locals := 0 }) (av := [.ref p0]) (by decide) (Nat.le_of_ble_eq_true rfl) ho ?_
  intro p e s m args below meth c ls A Q hQ X hT hl
  have hx := X.1.1
  have hb := X.1.2.1
  have hl : lv_has ls 1 [(0, .ref p0)] := hl
  obtain ⟨F, hFo⟩ : ∃ F : Nat → va_E, F = Fo := ⟨_, rfl⟩
  rw [← hFo] at hT
  have hfr : (∀ b j : Nat, (tag b ≠ 23 ∨ j ≠ 3) → (tag b ≠ 23 ∨ j ≠ 4) → fld F b j = fld Fo b j) ∧ EF tag F Fo := by
    rw [hFo]
    exact ⟨by intros; rfl, fun _ _ _ => rfl⟩
  refine lv_aload_n hx hb dX2_forget_0 rfl (lv_at hl 0 rfl) ?_
  refine lv_iconst (v := 0) hx hb dX2_forget_1 (by decide) ?_
  refine t_put (C := RX2) (T := TX2) (N := 5) (v := .int 0) X hT m0 g0 rfl tyX2 tyX2_ok nmX2 rfl 3 (by decide) qw_461 inlX2 rfl (by first | rfl | decide) (by first | rfl | decide) rfl (⟨_, rfl, (show 0 ≤ (0 : Int32).toInt from (by decide)), (show (0 : Int32).toInt ≤ 10 from (by decide))⟩) dX2_forget_2 (fun F H locs hT v55303 h1v55303 h2v55303 => ?_)
  have hfr : (∀ b j : Nat, (tag b ≠ 23 ∨ j ≠ 3) → (tag b ≠ 23 ∨ j ≠ 4) → fld F b j = fld Fo b j) ∧ EF tag F Fo := ⟨fun b j n23_3 n23_4 => (h1v55303 b j (fr_ne g0 n23_3)).trans (hfr.1 b j n23_3 n23_4), fun b j hb => (h2v55303 b j).trans (hfr.2 b j hb)⟩
  refine lv_aload_n hx hb dX2_forget_5 rfl (lv_at hl 0 rfl) ?_
  refine lv_iconst (v := 0) hx hb dX2_forget_6 (by decide) ?_
  refine t_put (C := RX2) (T := TX2) (N := 5) (v := .int 0) X hT m0 g0 rfl tyX2 tyX2_ok nmX2 rfl 4 (by decide) qw_462 inlX2 rfl (by first | rfl | decide) (by first | rfl | decide) rfl (⟨_, rfl, (show 0 ≤ (0 : Int32).toInt from (by decide)), (show (0 : Int32).toInt ≤ 3 from (by decide))⟩) dX2_forget_7 (fun F H locs hT v55304 h1v55304 h2v55304 => ?_)
  have v55303 := (h1v55304 _ _ (Or.inr (by decide))).trans v55303
  have hfr : (∀ b j : Nat, (tag b ≠ 23 ∨ j ≠ 3) → (tag b ≠ 23 ∨ j ≠ 4) → fld F b j = fld Fo b j) ∧ EF tag F Fo := ⟨fun b j n23_3 n23_4 => (h1v55304 b j (fr_ne g0 n23_4)).trans (hfr.1 b j n23_3 n23_4), fun b j hb => (h2v55304 b j).trans (hfr.2 b j hb)⟩
  exact t_vret hQ X hT hfr (Nat.le_of_ble_eq_true rfl) (Nat.le_of_ble_eq_true rfl) dX2_forget_10
set_option maxHeartbeats 4000000 in
set_option maxRecDepth 100000 in
theorem kt155_X3_isLineTooMany (l : Launch) (G : KG) (tag : Nat → Nat) (L : List Nat) (F : Nat → va_E) (ho : okT G ttC tag L F) (p0 : Nat) (p1 : Int32) (x0 : Nat) (x1 : Nat) (x2 : Nat) (x3 : Nat) (x4 : Nat) (x5 : Nat) (m0 : p0 ∈ L) (g0 : tag p0 = 25) (mx0 : x0 ∈ L) (gx0 : tag x0 = 24) (pf0 : fld F p0 0 = .ref x0) (mx1 : x1 ∈ L) (gx1 : tag x1 = 18) (pf1 : fld F p0 1 = .ref x1) (mx2 : x2 ∈ L) (gx2 : tag x2 = 19) (pf2 : fld F p0 2 = .ref x2) (mx3 : x3 ∈ L) (gx3 : tag x3 = 1) (pf3 : fld F x0 0 = .ref x3) (mx4 : x4 ∈ L) (gx4 : tag x4 = 14) (pf4 : fld F p0 10 = .ref x4) (mx5 : x5 ∈ L) (gx5 : tag x5 = 15) (pf5 : fld F p0 11 = .ref x5) : TMi l yX3_isLineTooMany cX3_isLineTooMany 2 (some .boolean) { frames := 0, cells := 0, slots := 0, locals := 0 } G ttC tag L F [.ref p0, .int p1] (fun r F1 => F1 = F ∧ (0 ≤ r.toInt ∧ r.toInt ≤ 1)) := by
  refine t_bodyi (y := yX3_isLineTooMany) (cd := cX3_isLineTooMany) (mL := 2) (rt := (some .boolean)) (rm := { frames := 0, cells := 0, slots := 0, locals := 0 }) (av := [.ref p0, .int p1]) (by decide) (Nat.le_of_ble_eq_true rfl) ho ?_
  intro p e s m args below meth c ls A Q hQ X hT hl
  have hx := X.1.1
  have hb := X.1.2.1
  have hl : lv_has ls 2 [(0, .ref p0), (1, .int p1)] := hl
  have rp1 := rg_all p1
  refine lv_iload_n hx hb dX3_isLineTooMany_0 rfl (lv_at hl 1 rfl) ?_
  by_cases c55913 : p1 = 2
  · have w55914 := cv_eq (rfl : p1.toInt = p1.toInt) (by decide : (2 : Int32).toInt = 2) c55913
    refine lv_tableIn (off := 43) (tgt := 44) hx hb dX3_isLineTooMany_1 (by rw [c55913]; decide) (by rw [c55913]; decide) (by rw [c55913]; decide) (by decide) ?_
    refine lv_aload_n hx hb dX3_isLineTooMany_44 rfl (lv_at hl 0 rfl) ?_
    refine t_get (C := RX3) (T := TX3) (N := 13) X hT m0 g0 rfl rfl 7 (by decide) qw_167 inlX3 rfl dX3_isLineTooMany_45 (fun v55915 hv55915 ov55915 => ?_)
    obtain ⟨z55916, rfl, rz55916⟩ := okV_i ov55915
    refine lv_bipush (v := 10) hx hb dX3_isLineTooMany_48 (by decide) ?_
    refine lv_icmp_lt (tgt := 57) hx hb dX3_isLineTooMany_50 (by decide) (fun c55917 => ?_) (fun c55917 => ?_)
    · have w55918 := cv_lt (rfl : z55916.toInt = z55916.toInt) (by decide : (10 : Int32).toInt = 10) c55917
      refine lv_iconst (v := 0) hx hb dX3_isLineTooMany_57 (by decide) ?_
      exact t_zret hQ X hT (by decide) (⟨rfl, (by decide)⟩) (Nat.le_of_ble_eq_true rfl) (Nat.le_of_ble_eq_true rfl) dX3_isLineTooMany_58
    · have w55919 := cv_nlt (rfl : z55916.toInt = z55916.toInt) (by decide : (10 : Int32).toInt = 10) c55917
      refine lv_iconst (v := 1) hx hb dX3_isLineTooMany_53 (by decide) ?_
      refine lv_goto (tgt := 58) hx hb dX3_isLineTooMany_54 (by decide) ?_
      exact t_zret hQ X hT (by decide) (⟨rfl, (by decide)⟩) (Nat.le_of_ble_eq_true rfl) (Nat.le_of_ble_eq_true rfl) dX3_isLineTooMany_58
  have w55920 := cv_ne (rfl : p1.toInt = p1.toInt) (by decide : (2 : Int32).toInt = 2) c55913
  by_cases c55921 : p1 = 3
  · have w55922 := cv_eq (rfl : p1.toInt = p1.toInt) (by decide : (3 : Int32).toInt = 3) c55921
    refine lv_tableIn (off := 58) (tgt := 59) hx hb dX3_isLineTooMany_1 (by rw [c55921]; decide) (by rw [c55921]; decide) (by rw [c55921]; decide) (by decide) ?_
    refine lv_aload_n hx hb dX3_isLineTooMany_59 rfl (lv_at hl 0 rfl) ?_
    refine t_get (C := RX3) (T := TX3) (N := 13) X hT m0 g0 rfl rfl 1 (by decide) qw_161 inlX3 rfl dX3_isLineTooMany_60 (fun v55923 hv55923 ov55923 => ?_)
    obtain rfl : v55923 = .ref x1 := hv55923.symm.trans pf1
    refine t_get (C := RX1) (T := TX1) (N := 20) X hT mx1 gx1 rfl rfl 8 (by decide) qw_171 inlX1 rfl dX3_isLineTooMany_63 (fun v55924 hv55924 ov55924 => ?_)
    obtain ⟨z55925, rfl, rz55925⟩ := okV_i ov55924
    refine lv_iconst (v := 4) hx hb dX3_isLineTooMany_66 (by decide) ?_
    refine lv_icmp_lt (tgt := 74) hx hb dX3_isLineTooMany_67 (by decide) (fun c55926 => ?_) (fun c55926 => ?_)
    · have w55927 := cv_lt (rfl : z55925.toInt = z55925.toInt) (by decide : (4 : Int32).toInt = 4) c55926
      refine lv_iconst (v := 0) hx hb dX3_isLineTooMany_74 (by decide) ?_
      exact t_zret hQ X hT (by decide) (⟨rfl, (by decide)⟩) (Nat.le_of_ble_eq_true rfl) (Nat.le_of_ble_eq_true rfl) dX3_isLineTooMany_75
    · have w55928 := cv_nlt (rfl : z55925.toInt = z55925.toInt) (by decide : (4 : Int32).toInt = 4) c55926
      refine lv_iconst (v := 1) hx hb dX3_isLineTooMany_70 (by decide) ?_
      refine lv_goto (tgt := 75) hx hb dX3_isLineTooMany_71 (by decide) ?_
      exact t_zret hQ X hT (by decide) (⟨rfl, (by decide)⟩) (Nat.le_of_ble_eq_true rfl) (Nat.le_of_ble_eq_true rfl) dX3_isLineTooMany_75
  have w55929 := cv_ne (rfl : p1.toInt = p1.toInt) (by decide : (3 : Int32).toInt = 3) c55921
  by_cases c55930 : p1 = 4
  · have w55931 := cv_eq (rfl : p1.toInt = p1.toInt) (by decide : (4 : Int32).toInt = 4) c55930
    refine lv_tableIn (off := 75) (tgt := 76) hx hb dX3_isLineTooMany_1 (by rw [c55930]; decide) (by rw [c55930]; decide) (by rw [c55930]; decide) (by decide) ?_
    refine lv_aload_n hx hb dX3_isLineTooMany_76 rfl (lv_at hl 0 rfl) ?_
    refine t_get (C := RX3) (T := TX3) (N := 13) X hT m0 g0 rfl rfl 1 (by decide) qw_161 inlX3 rfl dX3_isLineTooMany_77 (fun v55932 hv55932 ov55932 => ?_)
    obtain rfl : v55932 = .ref x1 := hv55932.symm.trans pf1
    refine t_get (C := RX1) (T := TX1) (N := 20) X hT mx1 gx1 rfl rfl 10 (by decide) qw_172 inlX1 rfl dX3_isLineTooMany_80 (fun v55933 hv55933 ov55933 => ?_)
    obtain ⟨z55934, rfl, rz55934⟩ := okV_i ov55933
    refine lv_iconst (v := 4) hx hb dX3_isLineTooMany_83 (by decide) ?_
    refine lv_icmp_lt (tgt := 91) hx hb dX3_isLineTooMany_84 (by decide) (fun c55935 => ?_) (fun c55935 => ?_)
    · have w55936 := cv_lt (rfl : z55934.toInt = z55934.toInt) (by decide : (4 : Int32).toInt = 4) c55935
      refine lv_iconst (v := 0) hx hb dX3_isLineTooMany_91 (by decide) ?_
      exact t_zret hQ X hT (by decide) (⟨rfl, (by decide)⟩) (Nat.le_of_ble_eq_true rfl) (Nat.le_of_ble_eq_true rfl) dX3_isLineTooMany_92
    · have w55937 := cv_nlt (rfl : z55934.toInt = z55934.toInt) (by decide : (4 : Int32).toInt = 4) c55935
      refine lv_iconst (v := 1) hx hb dX3_isLineTooMany_87 (by decide) ?_
      refine lv_goto (tgt := 92) hx hb dX3_isLineTooMany_88 (by decide) ?_
      exact t_zret hQ X hT (by decide) (⟨rfl, (by decide)⟩) (Nat.le_of_ble_eq_true rfl) (Nat.le_of_ble_eq_true rfl) dX3_isLineTooMany_92
  have w55938 := cv_ne (rfl : p1.toInt = p1.toInt) (by decide : (4 : Int32).toInt = 4) c55930
  by_cases c55939 : p1 = 5
  · have w55940 := cv_eq (rfl : p1.toInt = p1.toInt) (by decide : (5 : Int32).toInt = 5) c55939
    refine lv_tableIn (off := 143) (tgt := 144) hx hb dX3_isLineTooMany_1 (by rw [c55939]; decide) (by rw [c55939]; decide) (by rw [c55939]; decide) (by decide) ?_
    refine lv_iconst (v := 0) hx hb dX3_isLineTooMany_144 (by decide) ?_
    exact t_zret hQ X hT (by decide) (⟨rfl, (by decide)⟩) (Nat.le_of_ble_eq_true rfl) (Nat.le_of_ble_eq_true rfl) dX3_isLineTooMany_145
  have w55941 := cv_ne (rfl : p1.toInt = p1.toInt) (by decide : (5 : Int32).toInt = 5) c55939
  by_cases c55942 : p1 = 6
  · have w55943 := cv_eq (rfl : p1.toInt = p1.toInt) (by decide : (6 : Int32).toInt = 6) c55942
    refine lv_tableIn (off := 92) (tgt := 93) hx hb dX3_isLineTooMany_1 (by rw [c55942]; decide) (by rw [c55942]; decide) (by rw [c55942]; decide) (by decide) ?_
    refine lv_aload_n hx hb dX3_isLineTooMany_93 rfl (lv_at hl 0 rfl) ?_
    refine t_get (C := RX3) (T := TX3) (N := 13) X hT m0 g0 rfl rfl 1 (by decide) qw_161 inlX3 rfl dX3_isLineTooMany_94 (fun v55944 hv55944 ov55944 => ?_)
    obtain rfl : v55944 = .ref x1 := hv55944.symm.trans pf1
    refine t_get (C := RX1) (T := TX1) (N := 20) X hT mx1 gx1 rfl rfl 14 (by decide) qw_303 inlX1 rfl dX3_isLineTooMany_97 (fun v55945 hv55945 ov55945 => ?_)
    obtain ⟨z55946, rfl, rz55946⟩ := okV_i ov55945
    refine lv_bipush (v := 6) hx hb dX3_isLineTooMany_100 (by decide) ?_
    refine lv_icmp_lt (tgt := 109) hx hb dX3_isLineTooMany_102 (by decide) (fun c55947 => ?_) (fun c55947 => ?_)
    · have w55948 := cv_lt (rfl : z55946.toInt = z55946.toInt) (by decide : (6 : Int32).toInt = 6) c55947
      refine lv_iconst (v := 0) hx hb dX3_isLineTooMany_109 (by decide) ?_
      exact t_zret hQ X hT (by decide) (⟨rfl, (by decide)⟩) (Nat.le_of_ble_eq_true rfl) (Nat.le_of_ble_eq_true rfl) dX3_isLineTooMany_110
    · have w55949 := cv_nlt (rfl : z55946.toInt = z55946.toInt) (by decide : (6 : Int32).toInt = 6) c55947
      refine lv_iconst (v := 1) hx hb dX3_isLineTooMany_105 (by decide) ?_
      refine lv_goto (tgt := 110) hx hb dX3_isLineTooMany_106 (by decide) ?_
      exact t_zret hQ X hT (by decide) (⟨rfl, (by decide)⟩) (Nat.le_of_ble_eq_true rfl) (Nat.le_of_ble_eq_true rfl) dX3_isLineTooMany_110
  have w55950 := cv_ne (rfl : p1.toInt = p1.toInt) (by decide : (6 : Int32).toInt = 6) c55942
  by_cases c55951 : p1 = 7
  · have w55952 := cv_eq (rfl : p1.toInt = p1.toInt) (by decide : (7 : Int32).toInt = 7) c55951
    refine lv_tableIn (off := 110) (tgt := 111) hx hb dX3_isLineTooMany_1 (by rw [c55951]; decide) (by rw [c55951]; decide) (by rw [c55951]; decide) (by decide) ?_
    refine lv_aload_n hx hb dX3_isLineTooMany_111 rfl (lv_at hl 0 rfl) ?_
    refine t_get (C := RX3) (T := TX3) (N := 13) X hT m0 g0 rfl rfl 1 (by decide) qw_161 inlX3 rfl dX3_isLineTooMany_112 (fun v55953 hv55953 ov55953 => ?_)
    obtain rfl : v55953 = .ref x1 := hv55953.symm.trans pf1
    refine t_get (C := RX1) (T := TX1) (N := 20) X hT mx1 gx1 rfl rfl 16 (by decide) qw_304 inlX1 rfl dX3_isLineTooMany_115 (fun v55954 hv55954 ov55954 => ?_)
    obtain ⟨z55955, rfl, rz55955⟩ := okV_i ov55954
    refine lv_bipush (v := 6) hx hb dX3_isLineTooMany_118 (by decide) ?_
    refine lv_icmp_lt (tgt := 127) hx hb dX3_isLineTooMany_120 (by decide) (fun c55956 => ?_) (fun c55956 => ?_)
    · have w55957 := cv_lt (rfl : z55955.toInt = z55955.toInt) (by decide : (6 : Int32).toInt = 6) c55956
      refine lv_iconst (v := 0) hx hb dX3_isLineTooMany_127 (by decide) ?_
      exact t_zret hQ X hT (by decide) (⟨rfl, (by decide)⟩) (Nat.le_of_ble_eq_true rfl) (Nat.le_of_ble_eq_true rfl) dX3_isLineTooMany_128
    · have w55958 := cv_nlt (rfl : z55955.toInt = z55955.toInt) (by decide : (6 : Int32).toInt = 6) c55956
      refine lv_iconst (v := 1) hx hb dX3_isLineTooMany_123 (by decide) ?_
      refine lv_goto (tgt := 128) hx hb dX3_isLineTooMany_124 (by decide) ?_
      exact t_zret hQ X hT (by decide) (⟨rfl, (by decide)⟩) (Nat.le_of_ble_eq_true rfl) (Nat.le_of_ble_eq_true rfl) dX3_isLineTooMany_128
  have w55959 := cv_ne (rfl : p1.toInt = p1.toInt) (by decide : (7 : Int32).toInt = 7) c55951
  by_cases c55960 : p1 = 8
  · have w55961 := cv_eq (rfl : p1.toInt = p1.toInt) (by decide : (8 : Int32).toInt = 8) c55960
    refine lv_tableIn (off := 128) (tgt := 129) hx hb dX3_isLineTooMany_1 (by rw [c55960]; decide) (by rw [c55960]; decide) (by rw [c55960]; decide) (by decide) ?_
    refine lv_aload_n hx hb dX3_isLineTooMany_129 rfl (lv_at hl 0 rfl) ?_
    refine t_get (C := RX3) (T := TX3) (N := 13) X hT m0 g0 rfl rfl 8 (by decide) qw_168 inlX3 rfl dX3_isLineTooMany_130 (fun v55962 hv55962 ov55962 => ?_)
    obtain ⟨z55963, rfl, rz55963⟩ := okV_i ov55962
    refine lv_bipush (v := 8) hx hb dX3_isLineTooMany_133 (by decide) ?_
    refine lv_icmp_lt (tgt := 142) hx hb dX3_isLineTooMany_135 (by decide) (fun c55964 => ?_) (fun c55964 => ?_)
    · have w55965 := cv_lt (rfl : z55963.toInt = z55963.toInt) (by decide : (8 : Int32).toInt = 8) c55964
      refine lv_iconst (v := 0) hx hb dX3_isLineTooMany_142 (by decide) ?_
      exact t_zret hQ X hT (by decide) (⟨rfl, (by decide)⟩) (Nat.le_of_ble_eq_true rfl) (Nat.le_of_ble_eq_true rfl) dX3_isLineTooMany_143
    · have w55966 := cv_nlt (rfl : z55963.toInt = z55963.toInt) (by decide : (8 : Int32).toInt = 8) c55964
      refine lv_iconst (v := 1) hx hb dX3_isLineTooMany_138 (by decide) ?_
      refine lv_goto (tgt := 143) hx hb dX3_isLineTooMany_139 (by decide) ?_
      exact t_zret hQ X hT (by decide) (⟨rfl, (by decide)⟩) (Nat.le_of_ble_eq_true rfl) (Nat.le_of_ble_eq_true rfl) dX3_isLineTooMany_143
  have w55967 := cv_ne (rfl : p1.toInt = p1.toInt) (by decide : (8 : Int32).toInt = 8) c55960
  refine lv_tableOut (tgt := 144) hx hb dX3_isLineTooMany_1 (by omega) (by decide) ?_
  refine lv_iconst (v := 0) hx hb dX3_isLineTooMany_144 (by decide) ?_
  exact t_zret hQ X hT (by decide) (⟨rfl, (by decide)⟩) (Nat.le_of_ble_eq_true rfl) (Nat.le_of_ble_eq_true rfl) dX3_isLineTooMany_145
