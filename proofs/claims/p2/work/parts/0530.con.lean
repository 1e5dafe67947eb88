set_option maxHeartbeats 4000000 in
set_option maxRecDepth 100000 in
theorem kt166_X11_move (l : Launch) (G : KG) (tag : Nat → Nat) (L : List Nat) (Fo : Nat → va_E) (ho : okT G ttC tag L Fo) (p0 : Nat) (p1 : Int32) (p2 : Int32) (m0 : p0 ∈ L) (g0 : tag p0 = 26) : TMi l yX11_move cX11_move 3 (some .boolean) { frames := 3, cells := 0, slots := 0, locals := 68 } G ttC tag L Fo [.ref p0, .int p1, .int p2] (fun r F1 => (0 ≤ r.toInt ∧ r.toInt ≤ 1) ∧ ((∀ b j : Nat, (tag b ≠ 19 ∨ j ≠ 0) → (tag b ≠ 19 ∨ j ≠ 1) → (tag b ≠ 23 ∨ j ≠ 2) → (tag b ≠ 23 ∨ j ≠ 3) → (tag b ≠ 26 ∨ j ≠ 13) → fld F1 b j = fld Fo b j) ∧ EF tag F1 Fo)) := by
  refine t_bodyi (y := yX11_move) (cd := cX11_move) (mL := 3) (rt := (some .boolean)) (rm := { frames := 3, cells := 0, slots := 0, locals := 68 }) (av := [.ref p0, .int p1, .int p2]) (by decide) (Nat.le_of_ble_eq_true rfl) ho ?_
  intro p e s m args below meth c ls A Q hQ X hT hl
  have hx := X.1.1
  have hb := X.1.2.1
  have hl : lv_has ls 3 [(0, .ref p0), (1, .int p1), (2, .int p2)] := hl
  have rp1 := rg_all p1
  have rp2 := rg_all p2
  obtain ⟨F, hFo⟩ : ∃ F : Nat → va_E, F = Fo := ⟨_, rfl⟩
  rw [← hFo] at hT
  have hfr : (∀ b j : Nat, (tag b ≠ 19 ∨ j ≠ 0) → (tag b ≠ 19 ∨ j ≠ 1) → (tag b ≠ 23 ∨ j ≠ 2) → (tag b ≠ 23 ∨ j ≠ 3) → (tag b ≠ 26 ∨ j ≠ 13) → fld F b j = fld Fo b j) ∧ EF tag F Fo := by
    rw [hFo]
    exact ⟨by intros; rfl, fun _ _ _ => rfl⟩
  have K25 : ∀  (F : Nat → va_E) (H : Heap) (locs : List Loc) (ls : Array Slot), TH G ttC A s tag L F H locs → ((∀ b j : Nat, (tag b ≠ 19 ∨ j ≠ 0) → (tag b ≠ 19 ∨ j ≠ 1) → (tag b ≠ 23 ∨ j ≠ 2) → (tag b ≠ 23 ∨ j ≠ 3) → (tag b ≠ 26 ∨ j ≠ 13) → fld F b j = fld Fo b j) ∧ EF tag F Fo) → lv_has ls 3 [(0, .ref p0), (1, .int p1), (2, .int p2)] → W p l e { frames := 3, cells := 0, slots := 0, locals := 68 } s m args below meth c H locs 0 0 Q (F0 m 25 ls []) := by
    intro F H locs ls hT hfr hl
    refine lv_aload_n hx hb dX11_move_25 rfl (lv_at hl 0 rfl) ?_
    refine lv_iconst (v := 1) hx hb dX11_move_26 (by decide) ?_
    refine t_cVi (n := 1) (C := RX11) (T := TX11) (N := 16) (As := [.int 1]) (rest := []) X hT (kt58_X11_no l G tag L F hT.2.2.2 p0 1 m0 g0) m0 g0 rfl rfl qw_1454 qw_1455 qw_1456 qw_2 qw_1457 ⟨rfl, by decide +kernel, by decide +kernel, by decide +kernel⟩ ⟨Nat.le_of_ble_eq_true rfl, Nat.le_of_ble_eq_true rfl⟩ hl rfl rfl (Nat.le_of_ble_eq_true rfl) dX11_move_27 ⟨Nat.le_of_ble_eq_true rfl, Nat.le_of_ble_eq_true rfl⟩ (fun z71570 F H locs hT hz71570 => ?_)
    obtain ⟨hz71570, yz71570⟩ := hz71570
    have hfr : (∀ b j : Nat, (tag b ≠ 19 ∨ j ≠ 0) → (tag b ≠ 19 ∨ j ≠ 1) → (tag b ≠ 23 ∨ j ≠ 2) → (tag b ≠ 23 ∨ j ≠ 3) → (tag b ≠ 26 ∨ j ≠ 13) → fld F b j = fld Fo b j) ∧ EF tag F Fo := ⟨fun b j n19_0 n19_1 n23_2 n23_3 n26_13 => (yz71570.1 b j n26_13).trans (hfr.1 b j n19_0 n19_1 n23_2 n23_3 n26_13), fun b j hb => (yz71570.2 b j hb).trans (hfr.2 b j hb)⟩
    exact t_zret hQ X hT (nar_z (by omega)) (⟨(by omega), hfr⟩) (Nat.le_of_ble_eq_true rfl) (Nat.le_of_ble_eq_true rfl) dX11_move_30
  have K68 : ∀  (F : Nat → va_E) (H : Heap) (locs : List Loc) (ls : Array Slot), (0 ≤ p1.toInt ∧ p1.toInt ≤ 5) → (0 ≤ p2.toInt ∧ p2.toInt ≤ 6) → TH G ttC A s tag L F H locs → ((∀ b j : Nat, (tag b ≠ 19 ∨ j ≠ 0) → (tag b ≠ 19 ∨ j ≠ 1) → (tag b ≠ 23 ∨ j ≠ 2) → (tag b ≠ 23 ∨ j ≠ 3) → (tag b ≠ 26 ∨ j ≠ 13) → fld F b j = fld Fo b j) ∧ EF tag F Fo) → lv_has ls 3 [(0, .ref p0), (1, .int p1), (2, .int p2)] → W p l e { frames := 3, cells := 0, slots := 0, locals := 68 } s m args below meth c H locs 0 0 Q (F0 m 68 ls []) := by
    intro F H locs ls r9s71571 r9s71572 hT hfr hl
    refine lv_aload_n hx hb dX11_move_68 rfl (lv_at hl 0 rfl) ?_
    refine lv_iconst (v := 5) hx hb dX11_move_69 (by decide) ?_
    refine t_cVi (n := 1) (C := RX11) (T := TX11) (N := 16) (As := [.int 5]) (rest := []) X hT (kt58_X11_no l G tag L F hT.2.2.2 p0 5 m0 g0) m0 g0 rfl rfl qw_1454 qw_1455 qw_1456 qw_2 qw_1457 ⟨rfl, by decide +kernel, by decide +kernel, by decide +kernel⟩ ⟨Nat.le_of_ble_eq_true rfl, Nat.le_of_ble_eq_true rfl⟩ hl rfl rfl (Nat.le_of_ble_eq_true rfl) dX11_move_70 ⟨Nat.le_of_ble_eq_true rfl, Nat.le_of_ble_eq_true rfl⟩ (fun z71573 F H locs hT hz71573 => ?_)
    obtain ⟨hz71573, yz71573⟩ := hz71573
    have hfr : (∀ b j : Nat, (tag b ≠ 19 ∨ j ≠ 0) → (tag b ≠ 19 ∨ j ≠ 1) → (tag b ≠ 23 ∨ j ≠ 2) → (tag b ≠ 23 ∨ j ≠ 3) → (tag b ≠ 26 ∨ j ≠ 13) → fld F b j = fld Fo b j) ∧ EF tag F Fo := ⟨fun b j n19_0 n19_1 n23_2 n23_3 n26_13 => (yz71573.1 b j n26_13).trans (hfr.1 b j n19_0 n19_1 n23_2 n23_3 n26_13), fun b j hb => (yz71573.2 b j hb).trans (hfr.2 b j hb)⟩
    exact t_zret hQ X hT (nar_z (by omega)) (⟨(by omega), hfr⟩) (Nat.le_of_ble_eq_true rfl) (Nat.le_of_ble_eq_true rfl) dX11_move_73
  have K74 : ∀  (F : Nat → va_E) (H : Heap) (locs : List Loc) (ls : Array Slot), (0 ≤ p1.toInt ∧ p1.toInt ≤ 5) → (0 ≤ p2.toInt ∧ p2.toInt ≤ 6) → TH G ttC A s tag L F H locs → ((∀ b j : Nat, (tag b ≠ 19 ∨ j ≠ 0) → (tag b ≠ 19 ∨ j ≠ 1) → (tag b ≠ 23 ∨ j ≠ 2) → (tag b ≠ 23 ∨ j ≠ 3) → (tag b ≠ 26 ∨ j ≠ 13) → fld F b j = fld Fo b j) ∧ EF tag F Fo) → lv_has ls 3 [(0, .ref p0), (1, .int p1), (2, .int p2)] → W p l e { frames := 3, cells := 0, slots := 0, locals := 68 } s m args below meth c H locs 0 0 Q (F0 m 74 ls []) := by
    intro F H locs ls r9s71574 r9s71575 hT hfr hl
    refine lv_aload_n hx hb dX11_move_74 rfl (lv_at hl 0 rfl) ?_
    refine t_get (C := RX11) (T := TX11) (N := 16) X hT m0 g0 rfl rfl 12 (by decide) qw_45 inlX11 rfl dX11_move_75 (fun v71576 hv71576 ov71576 => ?_)
    obtain ⟨b71577, rfl, mb71577, gb71577⟩ := okV_r ov71576
    have gb71577 : tag b71577 = 23 := tg_of gb71577
    refine lv_aload_n hx hb dX11_move_78 rfl (lv_at hl 0 rfl) ?_
    refine t_get (C := RX11) (T := TX11) (N := 16) X hT m0 g0 rfl rfl 5 (by decide) qw_23 inlX11 rfl dX11_move_79 (fun v71578 hv71578 ov71578 => ?_)
    obtain ⟨b71579, rfl, mb71579, gb71579⟩ := okV_r ov71578
    have gb71579 : tag b71579 = 19 := tg_of gb71579
    refine t_cVv (n := 1) (C := RX2) (T := TX2) (N := 5) (As := [.ref b71579]) (rest := []) X hT (kt66_X2_keep l G tag L F hT.2.2.2 b71577 b71579 mb71577 gb71577 mb71579 gb71579) mb71577 gb71577 rfl rfl qw_1427 qw_1428 qw_1429 qw_44 qw_1430 ⟨rfl, by decide +kernel, by decide +kernel, by decide +kernel⟩ ⟨Nat.le_of_ble_eq_true rfl, Nat.le_of_ble_eq_true rfl⟩ hl rfl rfl (Nat.le_of_ble_eq_true rfl) dX11_move_82 ⟨Nat.le_of_ble_eq_true rfl, Nat.le_of_ble_eq_true rfl⟩ (fun F H locs hT hz71580 => ?_)
    have yz71580 := hz71580
    have hv71576 := (yz71580.1 _ 12 (Or.inr (by decide)) (Or.inr (by decide)) (Or.inr (by decide)) (Or.inr (by decide))).trans hv71576
    have hv71578 := (yz71580.1 _ 5 (Or.inr (by decide)) (Or.inr (by decide)) (Or.inr (by decide)) (Or.inr (by decide))).trans hv71578
    have hfr : (∀ b j : Nat, (tag b ≠ 19 ∨ j ≠ 0) → (tag b ≠ 19 ∨ j ≠ 1) → (tag b ≠ 23 ∨ j ≠ 2) → (tag b ≠ 23 ∨ j ≠ 3) → (tag b ≠ 26 ∨ j ≠ 13) → fld F b j = fld Fo b j) ∧ EF tag F Fo := ⟨fun b j n19_0 n19_1 n23_2 n23_3 n26_13 => (yz71580.1 b j n19_0 n19_1 n23_2 n23_3).trans (hfr.1 b j n19_0 n19_1 n23_2 n23_3 n26_13), fun b j hb => (yz71580.2 b j hb).trans (hfr.2 b j hb)⟩
    refine lv_aload_n hx hb dX11_move_85 rfl (lv_at hl 0 rfl) ?_
    refine t_get (C := RX11) (T := TX11) (N := 16) X hT m0 g0 rfl rfl 5 (by decide) qw_23 inlX11 rfl dX11_move_86 (fun v71581 hv71581 ov71581 => ?_)
    obtain rfl : v71581 = .ref b71579 := hv71581.symm.trans hv71578
    refine t_get (C := RX7) (T := TX7) (N := 7) X hT mb71579 gb71579 rfl rfl 5 (by decide) qw_886 inlX7 rfl dX11_move_89 (fun v71582 hv71582 ov71582 => ?_)
    obtain ⟨b71583, rfl, mb71583, gb71583⟩ := okV_r ov71582
    have gb71583 : tag b71583 = 7 := tg_of gb71583
    refine lv_iload_n hx hb dX11_move_92 rfl (lv_at hl 1 rfl) ?_
    refine lv_iload_n hx hb dX11_move_93 rfl (lv_at hl 2 rfl) ?_
    refine t_ist X hT mb71583 gb71583 rfl (by omega) (show (-2147483648) ≤ (p2 : Int32).toInt ∧ (p2 : Int32).toInt ≤ 2147483647 from (by omega)) dX11_move_94 (fun F H locs hT v71584 h1v71584 h2v71584 => ?_)
    have hv71576 := (h2v71584 _ _).trans hv71576
    have hv71578 := (h2v71584 _ _).trans hv71578
    have hv71582 := (h2v71584 _ _).trans hv71582
    have hfr : (∀ b j : Nat, (tag b ≠ 19 ∨ j ≠ 0) → (tag b ≠ 19 ∨ j ≠ 1) → (tag b ≠ 23 ∨ j ≠ 2) → (tag b ≠ 23 ∨ j ≠ 3) → (tag b ≠ 26 ∨ j ≠ 13) → fld F b j = fld Fo b j) ∧ EF tag F Fo := ⟨fun b j n19_0 n19_1 n23_2 n23_3 n26_13 => (h2v71584 b j).trans (hfr.1 b j n19_0 n19_1 n23_2 n23_3 n26_13), fun b j hb => (h1v71584 b j (Or.inl (ns_ne hb gb71583 (by decide)))).trans (hfr.2 b j hb)⟩
    refine lv_aload_n hx hb dX11_move_95 rfl (lv_at hl 0 rfl) ?_
    refine t_cVi (n := 0) (C := RX11) (T := TX11) (N := 16) (As := []) (rest := []) X hT (kt59_X11_yes l G tag L F hT.2.2.2 p0 m0 g0) m0 g0 rfl rfl qw_1460 qw_1461 qw_1462 qw_2 qw_1463 ⟨rfl, by decide +kernel, by decide +kernel, by decide +kernel⟩ ⟨Nat.le_of_ble_eq_true rfl, Nat.le_of_ble_eq_true rfl⟩ hl rfl rfl (Nat.le_of_ble_eq_true rfl) dX11_move_96 ⟨Nat.le_of_ble_eq_true rfl, Nat.le_of_ble_eq_true rfl⟩ (fun z71585 F H locs hT hz71585 => ?_)
    obtain ⟨hz71585, yz71585⟩ := hz71585
    have hv71576 := (yz71585.1 _ 12 (Or.inr (by decide))).trans hv71576
    have hv71578 := (yz71585.1 _ 5 (Or.inr (by decide))).trans hv71578
    have hv71582 := (yz71585.1 _ 5 (Or.inr (by decide))).trans hv71582
    have hfr : (∀ b j : Nat, (tag b ≠ 19 ∨ j ≠ 0) → (tag b ≠ 19 ∨ j ≠ 1) → (tag b ≠ 23 ∨ j ≠ 2) → (tag b ≠ 23 ∨ j ≠ 3) → (tag b ≠ 26 ∨ j ≠ 13) → fld F b j = fld Fo b j) ∧ EF tag F Fo := ⟨fun b j n19_0 n19_1 n23_2 n23_3 n26_13 => (yz71585.1 b j n26_13).trans (hfr.1 b j n19_0 n19_1 n23_2 n23_3 n26_13), fun b j hb => (yz71585.2 b j hb).trans (hfr.2 b j hb)⟩
    exact t_zret hQ X hT (nar_z (by omega)) (⟨(by omega), hfr⟩) (Nat.le_of_ble_eq_true rfl) (Nat.le_of_ble_eq_true rfl) dX11_move_99
  refine lv_aload_n hx hb dX11_move_0 rfl (lv_at hl 0 rfl) ?_
  refine lv_iload_n hx hb dX11_move_1 rfl (lv_at hl 1 rfl) ?_
  refine t_cVi (n := 1) (C := RX11) (T := TX11) (N := 16) (As := [.int p1]) (rest := []) X hT (kt86_X11_isHeir l G tag L F hT.2.2.2 p0 p1 m0 g0) m0 g0 rfl rfl qw_887 qw_888 qw_889 qw_2 qw_890 ⟨rfl, by decide +kernel, by decide +kernel, by decide +kernel⟩ ⟨Nat.le_of_ble_eq_true rfl, Nat.le_of_ble_eq_true rfl⟩ hl rfl rfl (Nat.le_of_ble_eq_true rfl) dX11_move_2 ⟨Nat.le_of_ble_eq_true rfl, Nat.le_of_ble_eq_true rfl⟩ (fun z71586 F9 H locs hT hz71586 => ?_)
  obtain ⟨fz71586, hz71586⟩ := hz71586
  rw [fz71586] at hT
  obtain ⟨hz71586, iz71586⟩ := hz71586
  refine lv_if_eq (tgt := 25) hx hb dX11_move_5 (by decide) (fun c71587 => ?_) (fun c71587 => ?_)
  · have w71588 := cv_eq (rfl : z71586.toInt = z71586.toInt) (by decide : (0 : Int32).toInt = 0) c71587
    exact K25  _ _ _ _  hT hfr  (lv_sub hl [0, 1, 2] rfl)
  · have w71589 := cv_ne (rfl : z71586.toInt = z71586.toInt) (by decide : (0 : Int32).toInt = 0) c71587
    have w71590 := (fun h => (iz71586 h)) (by omega)
    refine lv_aload_n hx hb dX11_move_8 rfl (lv_at hl 0 rfl) ?_
    refine lv_aload_n hx hb dX11_move_9 rfl (lv_at hl 0 rfl) ?_
    refine t_get (C := RX11) (T := TX11) (N := 16) X hT m0 g0 rfl rfl 3 (by decide) qw_18 inlX11 rfl dX11_move_10 (fun v71591 hv71591 ov71591 => ?_)
    obtain ⟨b71592, rfl, mb71592, gb71592⟩ := okV_r ov71591
    have gb71592 : tag b71592 = 18 := tg_of gb71592
    refine t_get (C := RX1) (T := TX1) (N := 20) X hT mb71592 gb71592 rfl rfl 15 (by decide) qw_885 inlX1 rfl dX11_move_13 (fun v71593 hv71593 ov71593 => ?_)
    obtain ⟨b71594, rfl, mb71594, gb71594⟩ := okV_r ov71593
    have gb71594 : tag b71594 = 6 := tg_of gb71594
    refine lv_iload_n hx hb dX11_move_16 rfl (lv_at hl 1 rfl) ?_
    refine t_ild X hT mb71594 gb71594 rfl (by omega) dX11_move_17 (fun z71595 vz71595 rz71595 => ?_)
    have rz71595 : 0 ≤ z71595.toInt ∧ z71595.toInt ≤ 3 := rz71595
    refine lv_iload_n hx hb dX11_move_18 rfl (lv_at hl 2 rfl) ?_
    refine t_cVi (n := 2) (C := RX11) (T := TX11) (N := 16) (As := [.int z71595, .int p2]) (rest := []) X hT (kt62_X11_isRoom l G tag L F hT.2.2.2 p0 z71595 p2 m0 g0) m0 g0 rfl rfl qw_827 qw_828 qw_829 qw_2 qw_830 ⟨rfl, by decide +kernel, by decide +kernel, by decide +kernel⟩ ⟨Nat.le_of_ble_eq_true rfl, Nat.le_of_ble_eq_true rfl⟩ hl rfl rfl (Nat.le_of_ble_eq_true rfl) dX11_move_19 ⟨Nat.le_of_ble_eq_true rfl, Nat.le_of_ble_eq_true rfl⟩ (fun z71596 F9 H locs hT hz71596 => ?_)
    obtain ⟨fz71596, hz71596⟩ := hz71596
    rw [fz71596] at hT
    obtain ⟨hz71596, iz71596⟩ := hz71596
    refine lv_if_ne (tgt := 31) hx hb dX11_move_22 (by decide) (fun c71597 => ?_) (fun c71597 => ?_)
    · have w71598 := cv_ne (rfl : z71596.toInt = z71596.toInt) (by decide : (0 : Int32).toInt = 0) c71597
      have w71599 := (fun h => (iz71596 h).1) (by omega)
      have w71600 := (fun h => (iz71596 h).2) (by omega)
      refine lv_aload_n hx hb dX11_move_31 rfl (lv_at hl 0 rfl) ?_
      refine t_get (C := RX11) (T := TX11) (N := 16) X hT m0 g0 rfl rfl 5 (by decide) qw_23 inlX11 rfl dX11_move_32 (fun v71601 hv71601 ov71601 => ?_)
      obtain ⟨b71602, rfl, mb71602, gb71602⟩ := okV_r ov71601
      have gb71602 : tag b71602 = 19 := tg_of gb71602
      refine t_get (C := RX7) (T := TX7) (N := 7) X hT mb71602 gb71602 rfl rfl 5 (by decide) qw_886 inlX7 rfl dX11_move_35 (fun v71603 hv71603 ov71603 => ?_)
      obtain ⟨b71604, rfl, mb71604, gb71604⟩ := okV_r ov71603
      have gb71604 : tag b71604 = 7 := tg_of gb71604
      refine lv_iload_n hx hb dX11_move_38 rfl (lv_at hl 1 rfl) ?_
      refine t_ild X hT mb71604 gb71604 rfl (by omega) dX11_move_39 (fun z71605 vz71605 rz71605 => ?_)
      have rz71605 : (-2147483648) ≤ z71605.toInt ∧ z71605.toInt ≤ 2147483647 := rz71605
      refine lv_iload_n hx hb dX11_move_40 rfl (lv_at hl 2 rfl) ?_
      refine lv_icmp_eq (tgt := 68) hx hb dX11_move_41 (by decide) (fun c71606 => ?_) (fun c71606 => ?_)
      · have w71607 := cv_eq (rfl : z71605.toInt = z71605.toInt) (rfl : p2.toInt = p2.toInt) c71606
        exact K68  _ _ _ _ (by omega) (by omega) hT hfr  (lv_sub hl [0, 1, 2] rfl)
      · have w71608 := cv_ne (rfl : z71605.toInt = z71605.toInt) (rfl : p2.toInt = p2.toInt) c71606
        refine lv_iload_n hx hb dX11_move_44 rfl (lv_at hl 2 rfl) ?_
        refine lv_if_le (tgt := 74) hx hb dX11_move_45 (by decide) (fun c71609 => ?_) (fun c71609 => ?_)
        · have w71610 := cv_le (rfl : p2.toInt = p2.toInt) (by decide : (0 : Int32).toInt = 0) c71609
          exact K74  _ _ _ _ (by omega) (by omega) hT hfr  (lv_sub hl [0, 1, 2] rfl)
        · have w71611 := cv_nle (rfl : p2.toInt = p2.toInt) (by decide : (0 : Int32).toInt = 0) c71609
          refine lv_aload_n hx hb dX11_move_48 rfl (lv_at hl 0 rfl) ?_
          refine t_get (C := RX11) (T := TX11) (N := 16) X hT m0 g0 rfl rfl 5 (by decide) qw_23 inlX11 rfl dX11_move_49 (fun v71612 hv71612 ov71612 => ?_)
          obtain rfl : v71612 = .ref b71602 := hv71612.symm.trans hv71601
          refine lv_aload_n hx hb dX11_move_52 rfl (lv_at hl 0 rfl) ?_
          refine t_get (C := RX11) (T := TX11) (N := 16) X hT m0 g0 rfl rfl 3 (by decide) qw_18 inlX11 rfl dX11_move_53 (fun v71613 hv71613 ov71613 => ?_)
          obtain rfl : v71613 = .ref b71592 := hv71613.symm.trans hv71591
          refine t_get (C := RX1) (T := TX1) (N := 20) X hT mb71592 gb71592 rfl rfl 15 (by decide) qw_885 inlX1 rfl dX11_move_56 (fun v71614 hv71614 ov71614 => ?_)
          obtain rfl : v71614 = .ref b71594 := hv71614.symm.trans hv71593
          refine lv_iload_n hx hb dX11_move_59 rfl (lv_at hl 1 rfl) ?_
          refine t_ild X hT mb71594 gb71594 rfl (by omega) dX11_move_60 (fun z71615 vz71615 rz71615 => ?_)
          obtain rfl : z71595 = z71615 := vz71595.symm.trans vz71615
          refine lv_iload_n hx hb dX11_move_61 rfl (lv_at hl 2 rfl) ?_
          refine t_cVi (n := 2) (C := RX7) (T := TX7) (N := 7) (As := [.int z71595, .int p2]) (rest := []) X hT (kt19_X7_isOpen l G tag L F hT.2.2.2 b71602 z71595 p2 mb71602 gb71602) mb71602 gb71602 rfl rfl qw_1458 qw_984 qw_985 qw_22 qw_986 ⟨rfl, by decide +kernel, by decide +kernel, by decide +kernel⟩ ⟨Nat.le_of_ble_eq_true rfl, Nat.le_of_ble_eq_true rfl⟩ hl rfl rfl (Nat.le_of_ble_eq_true rfl) dX11_move_62 ⟨Nat.le_of_ble_eq_true rfl, Nat.le_of_ble_eq_true rfl⟩ (fun z71616 F9 H locs hT hz71616 => ?_)
          obtain ⟨fz71616, hz71616⟩ := hz71616
          rw [fz71616] at hT
          refine lv_if_ne (tgt := 74) hx hb dX11_move_65 (by decide) (fun c71617 => ?_) (fun c71617 => ?_)
          · have w71618 := cv_ne (rfl : z71616.toInt = z71616.toInt) (by decide : (0 : Int32).toInt = 0) c71617
            exact K74  _ _ _ _ (by omega) (by omega) hT hfr  (lv_sub hl [0, 1, 2] rfl)
          · have w71619 := cv_eq (rfl : z71616.toInt = z71616.toInt) (by decide : (0 : Int32).toInt = 0) c71617
            exact K68  _ _ _ _ (by omega) (by omega) hT hfr  (lv_sub hl [0, 1, 2] rfl)
    · have w71620 := cv_eq (rfl : z71596.toInt = z71596.toInt) (by decide : (0 : Int32).toInt = 0) c71597
      exact K25  _ _ _ _  hT hfr  (lv_sub hl [0, 1, 2] rfl)
set_option maxHeartbeats 4000000 in
set_option maxRecDepth 100000 in
theorem kt167_X9_wallAt (l : Launch) (G : KG) (tag : Nat → Nat) (L : List Nat) (Fo : Nat → va_E) (ho : okT G ttC tag L Fo) (p0 : Nat) (p1 : Nat) (p2 : Int32) (p3 : Int32) (p4 : Int32) (m0 : p0 ∈ L) (g0 : tag p0 = 22) (m1 : p1 ∈ L) (g1 : tag p1 = 18) (h4 : 0 ≤ p4.toInt ∧ p4.toInt ≤ 5) : TMi l yX9_wallAt cX9_wallAt 7 (some .int) { frames := 3, cells := 0, slots := 0, locals := 63 } G ttC tag L Fo [.ref p0, .ref p1, .int p2, .int p3, .int p4] (fun r F1 => ((-2) ≤ r.toInt ∧ r.toInt ≤ 5) ∧ ((∀ b j : Nat, fld F1 b j = fld Fo b j) ∧ EF tag F1 Fo)) := by
  refine t_bodyi (y := yX9_wallAt) (cd := cX9_wallAt) (mL := 7) (rt := (some .int)) (rm := { frames := 3, cells := 0, slots := 0, locals := 63 }) (av := [.ref p0, .ref p1, .int p2, .int p3, .int p4]) (by decide) (Nat.le_of_ble_eq_true rfl) ho ?_
  intro p e s m args below meth c ls A Q hQ X hT hl
  have hx := X.1.1
  have hb := X.1.2.1
  have hl : lv_has ls 7 [(0, .ref p0), (1, .ref p1), (2, .int p2), (3, .int p3), (4, .int p4)] := hl
  have rp2 := rg_all p2
  have rp3 := rg_all p3
  obtain ⟨F, hFo⟩ : ∃ F : Nat → va_E, F = Fo := ⟨_, rfl⟩
  rw [← hFo] at hT
  have hfr : (∀ b j : Nat, fld F b j = fld Fo b j) ∧ EF tag F Fo := by
    rw [hFo]
    exact ⟨by intros; rfl, fun _ _ _ => rfl⟩
  have K17 : ∀ (n : Nat) (z72688 : Int32) (z72689 : Int32) (z72690 : Int32) (F : Nat → va_E) (H : Heap) (locs : List Loc) (ls : Array Slot), (720 - z72689.toInt < (n : Int)) → (0 ≤ z72689.toInt ∧ z72689.toInt ≤ 720) → (0 ≤ z72690.toInt ∧ z72690.toInt ≤ 6) → TH G ttC A s tag L F H locs → ((∀ b j : Nat, fld F b j = fld Fo b j) ∧ EF tag F Fo) → fld F p1 16 = .int z72690 → lv_has ls 7 [(0, .ref p0), (1, .ref p1), (2, .int p2), (3, .int p3), (4, .int p4), (5, .int z72688), (6, .int z72689)] → W p l e { frames := 3, cells := 0, slots := 0, locals := 63 } s m args below meth c H locs 0 0 Q (F0 m 17 ls []) := by
    intro n
    induction n with
    | zero =>
      intro z72688 z72689 z72690 F H locs ls hn rz72689 rz72690 hT hfr qz72690 hl
      have rz72688 := rg_all z72688
      exfalso
      omega
    | succ n ih17 =>
      intro z72688 z72689 z72690 F H locs ls hn rz72689 rz72690 hT hfr qz72690 hl
      have rz72688 := rg_all z72688
      have K56 : ∀ (z72691 : Int32) (z72693 : Int32) (F : Nat → va_E) (H : Heap) (locs : List Loc) (ls : Array Slot), (0 ≤ z72693.toInt ∧ z72693.toInt ≤ 6) → (0 ≤ z72689.toInt ∧ z72689.toInt ≤ 719) → TH G ttC A s tag L F H locs → ((∀ b j : Nat, fld F b j = fld Fo b j) ∧ EF tag F Fo) → fld F p1 16 = .int z72693 → lv_has ls 7 [(0, .ref p0), (1, .ref p1), (2, .int p2), (3, .int p3), (4, .int p4), (5, .int z72691), (6, .int z72689)] → W p l e { frames := 3, cells := 0, slots := 0, locals := 63 } s m args below meth c H locs 0 0 Q (F0 m 56 ls []) := by
        intro z72691 z72693 F H locs ls rz72693 r9s72692 hT hfr qz72693 hl
        have rz72691 := rg_all z72691
        refine lv_aload_n hx hb dX9_wallAt_56 rfl (lv_at hl 0 rfl) ?_
        refine t_get (C := RX9) (T := TX9) (N := 6) X hT m0 g0 rfl rfl 0 (by decide) qw_93 inlX9 rfl dX9_wallAt_57 (fun v72694 hv72694 ov72694 => ?_)
        obtain ⟨b72695, rfl, mb72695, gb72695⟩ := okV_r ov72694
        have gb72695 : tag b72695 = 11 := tg_of gb72695
        refine lv_aload_n hx hb dX9_wallAt_60 rfl (lv_at hl 1 rfl) ?_
        refine t_get (C := RX1) (T := TX1) (N := 20) X hT m1 g1 rfl rfl 16 (by decide) qw_1338 inlX1 rfl dX9_wallAt_61 (fun v72696 hv72696 ov72696 => ?_)
        obtain rfl : v72696 = .int z72693 := hv72696.symm.trans qz72693
        refine t_cSv (n := 2) (As := [.ref b72695, .int z72693]) (rest := []) X hT (kt158_X5_advance l G tag L F hT.2.2.2 b72695 z72693 mb72695 gb72695 (by omega)) qw_1356 qw_1248 qw_1242 qw_1249 ⟨by decide +kernel, by decide +kernel, by decide +kernel⟩ ⟨Nat.le_of_ble_eq_true rfl, Nat.le_of_ble_eq_true rfl⟩ hl rfl rfl (Nat.le_of_ble_eq_true rfl) dX9_wallAt_64 ⟨Nat.le_of_ble_eq_true rfl, Nat.le_of_ble_eq_true rfl⟩ (fun F H locs hT hz72697 => ?_)
        have yz72697 := hz72697
        have qz72693 := (yz72697.1 _ 16 ).trans qz72693
        have hv72694 := (yz72697.1 _ 0 ).trans hv72694
        have hfr : (∀ b j : Nat, fld F b j = fld Fo b j) ∧ EF tag F Fo := ⟨fun b j  => (yz72697.1 b j ).trans (hfr.1 b j ), fun b j hb => (yz72697.2 b j hb).trans (hfr.2 b j hb)⟩
        obtain ⟨z72698, ez72698⟩ : ∃ y : Int32, y = z72689 + 1 := ⟨_, rfl⟩
        have hz72698 : z72698.toInt = z72689.toInt + 1 := ar_add ez72698 rfl (by decide : (1 : Int32).toInt = 1) (by omega) (by omega)
        refine lv_iinc (v := z72698) (lv' := [(6, .int z72698), (0, .ref p0), (1, .ref p1), (2, .int p2), (3, .int p3), (4, .int p4), (5, .int z72691)]) hx hb dX9_wallAt_67 hl (k := 6) rfl (by rw [ez72698]; rfl) (by decide) rfl (fun ls hl => ?_)
        refine lv_goto (tgt := 17) hx hb dX9_wallAt_70 (by decide) ?_
        exact ih17 z72691 z72698 z72693 _ _ _ _ (by omega) (by omega) (by omega) hT hfr qz72693 (lv_sub hl [1, 2, 3, 4, 5, 6, 0] rfl)
      refine lv_iload hx hb dX9_wallAt_17 (lv_at hl 6 rfl) ?_
      refine t_getsN X hT X.2.2.2.1.2.1.2.2.1 (List.mem_of_getElem? (i := 3) rfl) dX9_wallAt_19 ?_
      refine lv_aload_n hx hb dX9_wallAt_22 rfl (lv_at hl 1 rfl) ?_
      refine t_get (C := RX1) (T := TX1) (N := 20) X hT m1 g1 rfl rfl 16 (by decide) qw_1338 inlX1 rfl dX9_wallAt_23 (fun v72699 hv72699 ov72699 => ?_)
      obtain rfl : v72699 = .int z72690 := hv72699.symm.trans qz72690
      refine t_tild X hT X.2.2.2.1.2.1.2.2.1 (by omega) dX9_wallAt_26 (fun z72700 ez72700 => ?_)
      have rz72700 : 1 ≤ z72700.toInt ∧ z72700.toInt ≤ 720 := by rw [ez72700]; exact gRows_r _
      refine lv_icmp_ge (tgt := 73) hx hb dX9_wallAt_27 (by decide) (fun c72701 => ?_) (fun c72701 => ?_)
      · have w72702 := cv_le (rfl : z72700.toInt = z72700.toInt) (rfl : z72689.toInt = z72689.toInt) c72701
        refine lv_bipush (v := (-2)) hx hb dX9_wallAt_73 (by decide) ?_
        exact t_iret hQ X hT (⟨(by decide), hfr⟩) (Nat.le_of_ble_eq_true rfl) (Nat.le_of_ble_eq_true rfl) dX9_wallAt_75
      · have w72703 := cv_nle (rfl : z72700.toInt = z72700.toInt) (rfl : z72689.toInt = z72689.toInt) c72701
        refine lv_aload_n hx hb dX9_wallAt_30 rfl (lv_at hl 0 rfl) ?_
        refine lv_aload_n hx hb dX9_wallAt_31 rfl (lv_at hl 1 rfl) ?_
        refine lv_iload_n hx hb dX9_wallAt_32 rfl (lv_at hl 2 rfl) ?_
        refine t_cVi (n := 2) (C := RX9) (T := TX9) (N := 6) (As := [.ref p1, .int p2]) (rest := []) X hT (kt153_X9_canBe l G tag L F hT.2.2.2 p0 p1 p2 m0 g0 m1 g1) m0 g0 rfl rfl qw_1340 qw_1341 qw_1342 qw_40 qw_1343 ⟨rfl, by decide +kernel, by decide +kernel, by decide +kernel⟩ ⟨Nat.le_of_ble_eq_true rfl, Nat.le_of_ble_eq_true rfl⟩ hl rfl rfl (Nat.le_of_ble_eq_true rfl) dX9_wallAt_33 ⟨Nat.le_of_ble_eq_true rfl, Nat.le_of_ble_eq_true rfl⟩ (fun z72704 F H locs hT hz72704 => ?_)
        obtain ⟨hz72704, yz72704⟩ := hz72704
        have qz72690 := (yz72704.1 _ 16 ).trans qz72690
        have hfr : (∀ b j : Nat, fld F b j = fld Fo b j) ∧ EF tag F Fo := ⟨fun b j  => (yz72704.1 b j ).trans (hfr.1 b j ), fun b j hb => (yz72704.2 b j hb).trans (hfr.2 b j hb)⟩
        refine lv_if_eq (tgt := 56) hx hb dX9_wallAt_36 (by decide) (fun c72705 => ?_) (fun c72705 => ?_)
        · have w72706 := cv_eq (rfl : z72704.toInt = z72704.toInt) (by decide : (0 : Int32).toInt = 0) c72705
          exact K56 z72688 z72690 _ _ _ _ (by omega) (by omega) hT hfr qz72690 (lv_sub hl [0, 1, 2, 3, 4, 5, 6] rfl)
        · have w72707 := cv_ne (rfl : z72704.toInt = z72704.toInt) (by decide : (0 : Int32).toInt = 0) c72705
          refine lv_iload hx hb dX9_wallAt_39 (lv_at hl 5 rfl) ?_
          refine lv_iload_n hx hb dX9_wallAt_41 rfl (lv_at hl 3 rfl) ?_
          refine lv_icmp_ne (tgt := 53) hx hb dX9_wallAt_42 (by decide) (fun c72708 => ?_) (fun c72708 => ?_)
          · have w72709 := cv_ne (rfl : z72688.toInt = z72688.toInt) (rfl : p3.toInt = p3.toInt) c72708
            obtain ⟨z72710, ez72710⟩ : ∃ y : Int32, y = z72688 + 1 := ⟨_, rfl⟩
            have rz72710 := rg_all z72710
            refine lv_iinc (v := z72710) (lv' := [(5, .int z72710), (0, .ref p0), (1, .ref p1), (2, .int p2), (3, .int p3), (4, .int p4), (6, .int z72689)]) hx hb dX9_wallAt_53 hl (k := 5) rfl (by rw [ez72710]; rfl) (by decide) rfl (fun ls hl => ?_)
            exact K56 z72710 z72690 _ _ _ _ (by omega) (by omega) hT hfr qz72690 (lv_sub hl [1, 2, 3, 4, 5, 0, 6] rfl)
          · have w72711 := cv_eq (rfl : z72688.toInt = z72688.toInt) (rfl : p3.toInt = p3.toInt) c72708
            refine lv_aload_n hx hb dX9_wallAt_45 rfl (lv_at hl 0 rfl) ?_
            refine t_get (C := RX9) (T := TX9) (N := 6) X hT m0 g0 rfl rfl 0 (by decide) qw_93 inlX9 rfl dX9_wallAt_46 (fun v72712 hv72712 ov72712 => ?_)
            obtain ⟨b72713, rfl, mb72713, gb72713⟩ := okV_r ov72712
            have gb72713 : tag b72713 = 11 := tg_of gb72713
            refine lv_iload hx hb dX9_wallAt_49 (lv_at hl 4 rfl) ?_
            refine t_ild X hT mb72713 gb72713 rfl (by omega) dX9_wallAt_51 (fun z72714 vz72714 rz72714 => ?_)
            have rz72714 : 0 ≤ z72714.toInt ∧ z72714.toInt ≤ 5 := rz72714
            exact t_iret hQ X hT (⟨(by omega), hfr⟩) (Nat.le_of_ble_eq_true rfl) (Nat.le_of_ble_eq_true rfl) dX9_wallAt_52
  refine lv_iconst (v := 0) hx hb dX9_wallAt_0 (by decide) ?_
  refine lv_istore (lv' := [(5, .int 0), (0, .ref p0), (1, .ref p1), (2, .int p2), (3, .int p3), (4, .int p4)]) hx hb dX9_wallAt_1 hl (by decide) rfl (fun ls hl => ?_)
  refine lv_aload_n hx hb dX9_wallAt_3 rfl (lv_at hl 1 rfl) ?_
  refine t_get (C := RX9) (T := TX9) (N := 6) X hT m0 g0 rfl rfl 0 (by decide) qw_93 inlX9 rfl dX9_wallAt_4 (fun v72715 hv72715 ov72715 => ?_)
  obtain ⟨b72716, rfl, mb72716, gb72716⟩ := okV_r ov72715
  have gb72716 : tag b72716 = 11 := tg_of gb72716
  refine lv_aload_n hx hb dX9_wallAt_7 rfl (lv_at hl 2 rfl) ?_
  refine t_get (C := RX1) (T := TX1) (N := 20) X hT m1 g1 rfl rfl 16 (by decide) qw_1338 inlX1 rfl dX9_wallAt_8 (fun v72717 hv72717 ov72717 => ?_)
  obtain ⟨z72718, rfl, rz72718⟩ := okV_i ov72717
  refine t_cSv (n := 2) (As := [.ref b72716, .int z72718]) (rest := []) X hT (kt151_X5_begin l G tag L F hT.2.2.2 b72716 z72718 mb72716 gb72716 (by omega)) qw_1339 qw_1241 qw_1242 qw_1243 ⟨by decide +kernel, by decide +kernel, by decide +kernel⟩ ⟨Nat.le_of_ble_eq_true rfl, Nat.le_of_ble_eq_true rfl⟩ hl rfl rfl (Nat.le_of_ble_eq_true rfl) dX9_wallAt_11 ⟨Nat.le_of_ble_eq_true rfl, Nat.le_of_ble_eq_true rfl⟩ (fun F H locs hT hz72719 => ?_)
  have yz72719 := hz72719
  have hv72715 := (yz72719.1 _ 0 ).trans hv72715
  have hv72717 := (yz72719.1 _ 16 ).trans hv72717
  have hfr : (∀ b j : Nat, fld F b j = fld Fo b j) ∧ EF tag F Fo := ⟨fun b j  => (yz72719.1 b j ).trans (hfr.1 b j ), fun b j hb => (yz72719.2 b j hb).trans (hfr.2 b j hb)⟩
  refine lv_iconst (v := 0) hx hb dX9_wallAt_14 (by decide) ?_
  refine lv_istore (lv' := [(6, .int 0), (5, .int 0), (0, .ref p0), (1, .ref p1), (2, .int p2), (3, .int p3), (4, .int p4)]) hx hb dX9_wallAt_15 hl (by decide) rfl (fun ls hl => ?_)
  have kk72720 : (0 : Int32).toInt = 0 := by decide
  have kk72721 : (0 : Int32).toInt = 0 := by decide
  exact K17 721 0 0 z72718 _ _ _ _ (by omega) (by decide) (by omega) hT hfr hv72717 (lv_sub hl [2, 3, 4, 5, 6, 1, 0] rfl)
set_option maxHeartbeats 4000000 in
set_option maxRecDepth 100000 in
theorem kt168_X11_order (l : Launch) (G : KG) (tag : Nat → Nat) (L : List Nat) (Fo : Nat → va_E) (ho : okT G ttC tag L Fo) (p0 : Nat) (p1 : Int32) (p2 : Int32) (m0 : p0 ∈ L) (g0 : tag p0 = 26) : TMi l yX11_order cX11_order 4 (some .int) { frames := 4, cells := 0, slots := 0, locals := 89 } G ttC tag L Fo [.ref p0, .int p1, .int p2] (fun r F1 => ((-2147483648) ≤ r.toInt ∧ r.toInt ≤ 2147483647) ∧ ((∀ b j : Nat, (tag b ≠ 26 ∨ j ≠ 13) → fld F1 b j = fld Fo b j) ∧ EF tag F1 Fo)) := by
  refine t_bodyi (y := yX11_order) (cd := cX11_order) (mL := 4) (rt := (some .int)) (rm := { frames := 4, cells := 0, slots := 0, locals := 89 }) (av := [.ref p0, .int p1, .int p2]) (by decide) (Nat.le_of_ble_eq_true rfl) ho ?_
  intro p e s m args below meth c ls A Q hQ X hT hl
  have hx := X.1.1
  have hb := X.1.2.1
  have hl : lv_has ls 4 [(0, .ref p0), (1, .int p1), (2, .int p2)] := hl
  have rp1 := rg_all p1
  have rp2 := rg_all p2
  obtain ⟨F, hFo⟩ : ∃ F : Nat → va_E, F = Fo := ⟨_, rfl⟩
  rw [← hFo] at hT
  have hfr : (∀ b j : Nat, (tag b ≠ 26 ∨ j ≠ 13) → fld F b j = fld Fo b j) ∧ EF tag F Fo := by
    rw [hFo]
    exact ⟨by intros; rfl, fun _ _ _ => rfl⟩
  have K22 : ∀  (F : Nat → va_E) (H : Heap) (locs : List Loc) (ls : Array Slot), TH G ttC A s tag L F H locs → ((∀ b j : Nat, (tag b ≠ 26 ∨ j ≠ 13) → fld F b j = fld Fo b j) ∧ EF tag F Fo) → lv_has ls 4 [(0, .ref p0), (1, .int p1), (2, .int p2)] → W p l e { frames := 4, cells := 0, slots := 0, locals := 89 } s m args below meth c H locs 0 0 Q (F0 m 22 ls []) := by
    intro F H locs ls hT hfr hl
    refine lv_aload_n hx hb dX11_order_22 rfl (lv_at hl 0 rfl) ?_
    refine lv_iconst (v := 1) hx hb dX11_order_23 (by decide) ?_
    refine t_cVi (n := 1) (C := RX11) (T := TX11) (N := 16) (As := [.int 1]) (rest := []) X hT (kt63_X11_refuse l G tag L F hT.2.2.2 p0 1 m0 g0) m0 g0 rfl rfl qw_152 qw_153 qw_154 qw_2 qw_155 ⟨rfl, by decide +kernel, by decide +kernel, by decide +kernel⟩ ⟨Nat.le_of_ble_eq_true rfl, Nat.le_of_ble_eq_true rfl⟩ hl rfl rfl (Nat.le_of_ble_eq_true rfl) dX11_order_24 ⟨Nat.le_of_ble_eq_true rfl, Nat.le_of_ble_eq_true rfl⟩ (fun z73011 F H locs hT hz73011 => ?_)
    obtain ⟨hz73011, yz73011⟩ := hz73011
    have hfr : (∀ b j : Nat, (tag b ≠ 26 ∨ j ≠ 13) → fld F b j = fld Fo b j) ∧ EF tag F Fo := ⟨fun b j n26_13 => (yz73011.1 b j n26_13).trans (hfr.1 b j n26_13), fun b j hb => (yz73011.2 b j hb).trans (hfr.2 b j hb)⟩
    exact t_iret hQ X hT (⟨rg_all _, hfr⟩) (Nat.le_of_ble_eq_true rfl) (Nat.le_of_ble_eq_true rfl) dX11_order_27
  refine lv_aload_n hx hb dX11_order_0 rfl (lv_at hl 0 rfl) ?_
  refine lv_iload_n hx hb dX11_order_1 rfl (lv_at hl 2 rfl) ?_
  refine t_cVi (n := 1) (C := RX11) (T := TX11) (N := 16) (As := [.int p2]) (rest := []) X hT (kt92_X11_isWall l G tag L F hT.2.2.2 p0 p2 m0 g0) m0 g0 rfl rfl qw_1379 qw_1380 qw_1381 qw_2 qw_1382 ⟨rfl, by decide +kernel, by decide +kernel, by decide +kernel⟩ ⟨Nat.le_of_ble_eq_true rfl, Nat.le_of_ble_eq_true rfl⟩ hl rfl rfl (Nat.le_of_ble_eq_true rfl) dX11_order_2 ⟨Nat.le_of_ble_eq_true rfl, Nat.le_of_ble_eq_true rfl⟩ (fun z73012 F9 H locs hT hz73012 => ?_)
  obtain ⟨fz73012, hz73012⟩ := hz73012
  rw [fz73012] at hT
  obtain ⟨hz73012, iz73012⟩ := hz73012
  refine lv_if_eq (tgt := 22) hx hb dX11_order_5 (by decide) (fun c73013 => ?_) (fun c73013 => ?_)
  · have w73014 := cv_eq (rfl : z73012.toInt = z73012.toInt) (by decide : (0 : Int32).toInt = 0) c73013
    exact K22  _ _ _ _  hT hfr  (lv_sub hl [0, 1, 2] rfl)
  · have w73015 := cv_ne (rfl : z73012.toInt = z73012.toInt) (by decide : (0 : Int32).toInt = 0) c73013
    have w73016 := (fun h => (iz73012 h)) (by omega)
    refine lv_iload_n hx hb dX11_order_8 rfl (lv_at hl 1 rfl) ?_
    refine lv_if_lt (tgt := 22) hx hb dX11_order_9 (by decide) (fun c73017 => ?_) (fun c73017 => ?_)
    · have w73018 := cv_lt (rfl : p1.toInt = p1.toInt) (by decide : (0 : Int32).toInt = 0) c73017
      exact K22  _ _ _ _  hT hfr  (lv_sub hl [0, 1, 2] rfl)
    · have w73019 := cv_nlt (rfl : p1.toInt = p1.toInt) (by decide : (0 : Int32).toInt = 0) c73017
      refine lv_iload_n hx hb dX11_order_12 rfl (lv_at hl 1 rfl) ?_
      refine t_gets X hT X.2.2.2.1.2.1.2.2.1 qw_1378 dX11_order_13 ?_
      refine lv_bipush (v := 6) hx hb dX11_order_16 (by decide) ?_
      refine t_tild X hT X.2.2.2.1.2.1.2.2.1 (by decide) dX11_order_18 (fun z73020 ez73020 => ?_)
      have rz73020 : 1 ≤ z73020.toInt ∧ z73020.toInt ≤ 720 := by rw [ez73020]; exact gRows_r _
      refine lv_icmp_lt (tgt := 28) hx hb dX11_order_19 (by decide) (fun c73021 => ?_) (fun c73021 => ?_)
      · have w73022 := cv_lt (rfl : p1.toInt = p1.toInt) (rfl : z73020.toInt = z73020.toInt) c73021
        refine lv_aload_n hx hb dX11_order_28 rfl (lv_at hl 0 rfl) ?_
        refine t_get (C := RX11) (T := TX11) (N := 16) X hT m0 g0 rfl rfl 11 (by decide) qw_41 inlX11 rfl dX11_order_29 (fun v73023 hv73023 ov73023 => ?_)
        obtain ⟨b73024, rfl, mb73024, gb73024⟩ := okV_r ov73023
        have gb73024 : tag b73024 = 22 := tg_of gb73024
        refine lv_aload_n hx hb dX11_order_32 rfl (lv_at hl 0 rfl) ?_
        refine t_get (C := RX11) (T := TX11) (N := 16) X hT m0 g0 rfl rfl 3 (by decide) qw_18 inlX11 rfl dX11_order_33 (fun v73025 hv73025 ov73025 => ?_)
        obtain ⟨b73026, rfl, mb73026, gb73026⟩ := okV_r ov73025
        have gb73026 : tag b73026 = 18 := tg_of gb73026
        refine lv_aload_n hx hb dX11_order_36 rfl (lv_at hl 0 rfl) ?_
        refine t_get (C := RX11) (T := TX11) (N := 16) X hT m0 g0 rfl rfl 5 (by decide) qw_23 inlX11 rfl dX11_order_37 (fun v73027 hv73027 ov73027 => ?_)
        obtain ⟨b73028, rfl, mb73028, gb73028⟩ := okV_r ov73027
        have gb73028 : tag b73028 = 19 := tg_of gb73028
        refine t_get (C := RX7) (T := TX7) (N := 7) X hT mb73028 gb73028 rfl rfl 0 (by decide) qw_1225 inlX7 rfl dX11_order_40 (fun v73029 hv73029 ov73029 => ?_)
        obtain ⟨z73030, rfl, rz73030⟩ := okV_i ov73029
        refine lv_iload_n hx hb dX11_order_43 rfl (lv_at hl 1 rfl) ?_
        refine lv_iload_n hx hb dX11_order_44 rfl (lv_at hl 2 rfl) ?_
        refine t_cVi (n := 4) (C := RX9) (T := TX9) (N := 6) (As := [.ref b73026, .int z73030, .int p1, .int p2]) (rest := []) X hT (kt167_X9_wallAt l G tag L F hT.2.2.2 b73024 b73026 z73030 p1 p2 mb73024 gb73024 mb73026 gb73026 (by omega)) mb73024 gb73024 rfl rfl qw_1384 qw_1385 qw_1386 qw_40 qw_1387 ⟨rfl, by decide +kernel, by decide +kernel, by decide +kernel⟩ ⟨Nat.le_of_ble_eq_true rfl, Nat.le_of_ble_eq_true rfl⟩ hl rfl rfl (Nat.le_of_ble_eq_true rfl) dX11_order_45 ⟨Nat.le_of_ble_eq_true rfl, Nat.le_of_ble_eq_true rfl⟩ (fun z73031 F H locs hT hz73031 => ?_)
        obtain ⟨hz73031, yz73031⟩ := hz73031
        have hv73023 := (yz73031.1 _ 11 ).trans hv73023
        have hv73025 := (yz73031.1 _ 3 ).trans hv73025
        have hv73027 := (yz73031.1 _ 5 ).trans hv73027
        have hv73029 := (yz73031.1 _ 0 ).trans hv73029
        have hfr : (∀ b j : Nat, (tag b ≠ 26 ∨ j ≠ 13) → fld F b j = fld Fo b j) ∧ EF tag F Fo := ⟨fun b j n26_13 => (yz73031.1 b j ).trans (hfr.1 b j n26_13), fun b j hb => (yz73031.2 b j hb).trans (hfr.2 b j hb)⟩
        refine lv_istore_n (lv' := [(3, .int z73031), (0, .ref p0), (1, .int p1), (2, .int p2)]) hx hb dX11_order_48 rfl hl (by decide) rfl (fun ls hl => ?_)
        refine lv_iload_n hx hb dX11_order_49 rfl (lv_at hl 0 rfl) ?_
        refine lv_bipush (v := (-2)) hx hb dX11_order_50 (by decide) ?_
        refine lv_icmp_ne (tgt := 63) hx hb dX11_order_52 (by decide) (fun c73032 => ?_) (fun c73032 => ?_)
        · have w73033 := cv_ne (rfl : z73031.toInt = z73031.toInt) (by decide : ((-2) : Int32).toInt = (-2)) c73032
          refine lv_aload_n hx hb dX11_order_63 rfl (lv_at hl 1 rfl) ?_
          refine lv_iload_n hx hb dX11_order_64 rfl (lv_at hl 0 rfl) ?_
          refine t_cVi (n := 1) (C := RX11) (T := TX11) (N := 16) (As := [.int z73031]) (rest := []) X hT (kt56_X11_answer l G tag L F hT.2.2.2 p0 z73031 m0 g0) m0 g0 rfl rfl qw_463 qw_464 qw_465 qw_2 qw_466 ⟨rfl, by decide +kernel, by decide +kernel, by decide +kernel⟩ ⟨Nat.le_of_ble_eq_true rfl, Nat.le_of_ble_eq_true rfl⟩ hl rfl rfl (Nat.le_of_ble_eq_true rfl) dX11_order_65 ⟨Nat.le_of_ble_eq_true rfl, Nat.le_of_ble_eq_true rfl⟩ (fun z73034 F H locs hT hz73034 => ?_)
          obtain ⟨hz73034, yz73034⟩ := hz73034
          have hv73023 := (yz73034.1 _ 11 (Or.inr (by decide))).trans hv73023
          have hv73025 := (yz73034.1 _ 3 (Or.inr (by decide))).trans hv73025
          have hv73027 := (yz73034.1 _ 5 (Or.inr (by decide))).trans hv73027
          have hv73029 := (yz73034.1 _ 0 (Or.inr (by decide))).trans hv73029
          have hfr : (∀ b j : Nat, (tag b ≠ 26 ∨ j ≠ 13) → fld F b j = fld Fo b j) ∧ EF tag F Fo := ⟨fun b j n26_13 => (yz73034.1 b j n26_13).trans (hfr.1 b j n26_13), fun b j hb => (yz73034.2 b j hb).trans (hfr.2 b j hb)⟩
          exact t_iret hQ X hT (⟨rg_all _, hfr⟩) (Nat.le_of_ble_eq_true rfl) (Nat.le_of_ble_eq_true rfl) dX11_order_68
        · have w73035 := cv_eq (rfl : z73031.toInt = z73031.toInt) (by decide : ((-2) : Int32).toInt = (-2)) c73032
          refine lv_aload_n hx hb dX11_order_55 rfl (lv_at hl 1 rfl) ?_
          refine lv_iconst (v := 1) hx hb dX11_order_56 (by decide) ?_
          refine t_cVi (n := 1) (C := RX11) (T := TX11) (N := 16) (As := [.int 1]) (rest := []) X hT (kt63_X11_refuse l G tag L F hT.2.2.2 p0 1 m0 g0) m0 g0 rfl rfl qw_152 qw_153 qw_154 qw_2 qw_155 ⟨rfl, by decide +kernel, by decide +kernel, by decide +kernel⟩ ⟨Nat.le_of_ble_eq_true rfl, Nat.le_of_ble_eq_true rfl⟩ hl rfl rfl (Nat.le_of_ble_eq_true rfl) dX11_order_57 ⟨Nat.le_of_ble_eq_true rfl, Nat.le_of_ble_eq_true rfl⟩ (fun z73036 F H locs hT hz73036 => ?_)
          obtain ⟨hz73036, yz73036⟩ := hz73036
          have hv73023 := (yz73036.1 _ 11 (Or.inr (by decide))).trans hv73023
          have hv73025 := (yz73036.1 _ 3 (Or.inr (by decide))).trans hv73025
          have hv73027 := (yz73036.1 _ 5 (Or.inr (by decide))).trans hv73027
          have hv73029 := (yz73036.1 _ 0 (Or.inr (by decide))).trans hv73029
          have hfr : (∀ b j : Nat, (tag b ≠ 26 ∨ j ≠ 13) → fld F b j = fld Fo b j) ∧ EF tag F Fo := ⟨fun b j n26_13 => (yz73036.1 b j n26_13).trans (hfr.1 b j n26_13), fun b j hb => (yz73036.2 b j hb).trans (hfr.2 b j hb)⟩
          refine lv_goto (tgt := 68) hx hb dX11_order_60 (by decide) ?_
          exact t_iret hQ X hT (⟨rg_all _, hfr⟩) (Nat.le_of_ble_eq_true rfl) (Nat.le_of_ble_eq_true rfl) dX11_order_68
      · have w73037 := cv_nlt (rfl : p1.toInt = p1.toInt) (rfl : z73020.toInt = z73020.toInt) c73021
        exact K22  _ _ _ _  hT hfr  (lv_sub hl [0, 1, 2] rfl)
set_option maxHeartbeats 4000000 in
set_option maxRecDepth 100000 in
theorem kt169_X11_orders (l : Launch) (G : KG) (tag : Nat → Nat) (L : List Nat) (Fo : Nat → va_E) (ho : okT G ttC tag L Fo) (p0 : Nat) (m0 : p0 ∈ L) (g0 : tag p0 = 26) : TMi l yX11_orders cX11_orders 1 (some .int) { frames := 4, cells := 0, slots := 0, locals := 86 } G ttC tag L Fo [.ref p0] (fun r F1 => ((-2147483648) ≤ r.toInt ∧ r.toInt ≤ 2147483647) ∧ ((∀ b j : Nat, (tag b ≠ 22 ∨ j ≠ 2) → (tag b ≠ 26 ∨ j ≠ 13) → fld F1 b j = fld Fo b j) ∧ EF tag F1 Fo)) := by
  refine t_bodyi (y := yX11_orders) (cd := cX11_orders) (mL := 1) (rt := (some .int)) (rm := { frames := 4, cells := 0, slots := 0, locals := 86 }) (av := [.ref p0]) (by decide) (Nat.le_of_ble_eq_true rfl) ho ?_
  intro p e s m args below meth c ls A Q hQ X hT hl
  have hx := X.1.1
  have hb := X.1.2.1
  have hl : lv_has ls 1 [(0, .ref p0)] := hl
  obtain ⟨F, hFo⟩ : ∃ F : Nat → va_E, F = Fo := ⟨_, rfl⟩
  rw [← hFo] at hT
  have hfr : (∀ b j : Nat, (tag b ≠ 22 ∨ j ≠ 2) → (tag b ≠ 26 ∨ j ≠ 13) → fld F b j = fld Fo b j) ∧ EF tag F Fo := by
    rw [hFo]
    exact ⟨by intros; rfl, fun _ _ _ => rfl⟩
  refine lv_aload_n hx hb dX11_orders_0 rfl (lv_at hl 0 rfl) ?_
  refine t_get (C := RX11) (T := TX11) (N := 16) X hT m0 g0 rfl rfl 2 (by decide) qw_150 inlX11 rfl dX11_orders_1 (fun v73247 hv73247 ov73247 => ?_)
  obtain ⟨z73248, rfl, rz73248⟩ := okV_i ov73247
  refine lv_if_ne (tgt := 13) hx hb dX11_orders_4 (by decide) (fun c73249 => ?_) (fun c73249 => ?_)
  · have w73250 := cv_ne (rfl : z73248.toInt = z73248.toInt) (by decide : (0 : Int32).toInt = 0) c73249
    refine lv_aload_n hx hb dX11_orders_13 rfl (lv_at hl 0 rfl) ?_
    refine t_get (C := RX11) (T := TX11) (N := 16) X hT m0 g0 rfl rfl 11 (by decide) qw_41 inlX11 rfl dX11_orders_14 (fun v73251 hv73251 ov73251 => ?_)
    obtain ⟨b73252, rfl, mb73252, gb73252⟩ := okV_r ov73251
    have gb73252 : tag b73252 = 22 := tg_of gb73252
    refine lv_aload_n hx hb dX11_orders_17 rfl (lv_at hl 0 rfl) ?_
    refine t_get (C := RX11) (T := TX11) (N := 16) X hT m0 g0 rfl rfl 3 (by decide) qw_18 inlX11 rfl dX11_orders_18 (fun v73253 hv73253 ov73253 => ?_)
    obtain ⟨b73254, rfl, mb73254, gb73254⟩ := okV_r ov73253
    have gb73254 : tag b73254 = 18 := tg_of gb73254
    refine lv_aload_n hx hb dX11_orders_21 rfl (lv_at hl 0 rfl) ?_
    refine t_get (C := RX11) (T := TX11) (N := 16) X hT m0 g0 rfl rfl 5 (by decide) qw_23 inlX11 rfl dX11_orders_22 (fun v73255 hv73255 ov73255 => ?_)
    obtain ⟨b73256, rfl, mb73256, gb73256⟩ := okV_r ov73255
    have gb73256 : tag b73256 = 19 := tg_of gb73256
    refine t_get (C := RX7) (T := TX7) (N := 7) X hT mb73256 gb73256 rfl rfl 0 (by decide) qw_1225 inlX7 rfl dX11_orders_25 (fun v73257 hv73257 ov73257 => ?_)
    obtain ⟨z73258, rfl, rz73258⟩ := okV_i ov73257
    refine t_cVv (n := 2) (C := RX9) (T := TX9) (N := 6) (As := [.ref b73254, .int z73258]) (rest := []) X hT (kt159_X9_lookAtAll l G tag L F hT.2.2.2 b73252 b73254 z73258 mb73252 gb73252 mb73254 gb73254) mb73252 gb73252 rfl rfl qw_1333 qw_1334 qw_1335 qw_40 qw_1336 ⟨rfl, by decide +kernel, by decide +kernel, by decide +kernel⟩ ⟨Nat.le_of_ble_eq_true rfl, Nat.le_of_ble_eq_true rfl⟩ hl rfl rfl (Nat.le_of_ble_eq_true rfl) dX11_orders_28 ⟨Nat.le_of_ble_eq_true rfl, Nat.le_of_ble_eq_true rfl⟩ (fun F H locs hT hz73259 => ?_)
    have yz73259 := hz73259
    have hv73247 := (yz73259.1 _ 2 (Or.inl (by rw [g0]; decide))).trans hv73247
    have hv73251 := (yz73259.1 _ 11 (Or.inr (by decide))).trans hv73251
    have hv73253 := (yz73259.1 _ 3 (Or.inr (by decide))).trans hv73253
    have hv73255 := (yz73259.1 _ 5 (Or.inr (by decide))).trans hv73255
    have hv73257 := (yz73259.1 _ 0 (Or.inr (by decide))).trans hv73257
    have hfr : (∀ b j : Nat, (tag b ≠ 22 ∨ j ≠ 2) → (tag b ≠ 26 ∨ j ≠ 13) → fld F b j = fld Fo b j) ∧ EF tag F Fo := ⟨fun b j n22_2 n26_13 => (yz73259.1 b j n22_2).trans (hfr.1 b j n22_2 n26_13), fun b j hb => (yz73259.2 b j hb).trans (hfr.2 b j hb)⟩
    refine lv_aload_n hx hb dX11_orders_31 rfl (lv_at hl 0 rfl) ?_
    refine lv_aload_n hx hb dX11_orders_32 rfl (lv_at hl 0 rfl) ?_
    refine t_get (C := RX11) (T := TX11) (N := 16) X hT m0 g0 rfl rfl 11 (by decide) qw_41 inlX11 rfl dX11_orders_33 (fun v73260 hv73260 ov73260 => ?_)
    obtain rfl : v73260 = .ref b73252 := hv73260.symm.trans hv73251
    refine t_get (C := RX9) (T := TX9) (N := 6) X hT mb73252 gb73252 rfl rfl 2 (by decide) qw_1332 inlX9 rfl dX11_orders_36 (fun v73261 hv73261 ov73261 => ?_)
    obtain ⟨z73262, rfl, rz73262⟩ := okV_i ov73261
    refine t_cVi (n := 1) (C := RX11) (T := TX11) (N := 16) (As := [.int z73262]) (rest := []) X hT (kt56_X11_answer l G tag L F hT.2.2.2 p0 z73262 m0 g0) m0 g0 rfl rfl qw_463 qw_464 qw_465 qw_2 qw_466 ⟨rfl, by decide +kernel, by decide +kernel, by decide +kernel⟩ ⟨Nat.le_of_ble_eq_true rfl, Nat.le_of_ble_eq_true rfl⟩ hl rfl rfl (Nat.le_of_ble_eq_true rfl) dX11_orders_39 ⟨Nat.le_of_ble_eq_true rfl, Nat.le_of_ble_eq_true rfl⟩ (fun z73263 F H locs hT hz73263 => ?_)
    obtain ⟨hz73263, yz73263⟩ := hz73263
    have hv73247 := (yz73263.1 _ 2 (Or.inr (by decide))).trans hv73247
    have hv73251 := (yz73263.1 _ 11 (Or.inr (by decide))).trans hv73251
    have hv73253 := (yz73263.1 _ 3 (Or.inr (by decide))).trans hv73253
    have hv73255 := (yz73263.1 _ 5 (Or.inr (by decide))).trans hv73255
    have hv73257 := (yz73263.1 _ 0 (Or.inr (by decide))).trans hv73257
    have hv73261 := (yz73263.1 _ 2 (Or.inr (by decide))).trans hv73261
    have hfr : (∀ b j : Nat, (tag b ≠ 22 ∨ j ≠ 2) → (tag b ≠ 26 ∨ j ≠ 13) → fld F b j = fld Fo b j) ∧ EF tag F Fo := ⟨fun b j n22_2 n26_13 => (yz73263.1 b j n26_13).trans (hfr.1 b j n22_2 n26_13), fun b j hb => (yz73263.2 b j hb).trans (hfr.2 b j hb)⟩
    exact t_iret hQ X hT (⟨rg_all _, hfr⟩) (Nat.le_of_ble_eq_true rfl) (Nat.le_of_ble_eq_true rfl) dX11_orders_42
  · have w73264 := cv_eq (rfl : z73248.toInt = z73248.toInt) (by decide : (0 : Int32).toInt = 0) c73249
    refine lv_aload_n hx hb dX11_orders_7 rfl (lv_at hl 0 rfl) ?_
    refine lv_iconst (v := 1) hx hb dX11_orders_8 (by decide) ?_
    refine t_cVi (n := 1) (C := RX11) (T := TX11) (N := 16) (As := [.int 1]) (rest := []) X hT (kt63_X11_refuse l G tag L F hT.2.2.2 p0 1 m0 g0) m0 g0 rfl rfl qw_152 qw_153 qw_154 qw_2 qw_155 ⟨rfl, by decide +kernel, by decide +kernel, by decide +kernel⟩ ⟨Nat.le_of_ble_eq_true rfl, Nat.le_of_ble_eq_true rfl⟩ hl rfl rfl (Nat.le_of_ble_eq_true rfl) dX11_orders_9 ⟨Nat.le_of_ble_eq_true rfl, Nat.le_of_ble_eq_true rfl⟩ (fun z73265 F H locs hT hz73265 => ?_)
    obtain ⟨hz73265, yz73265⟩ := hz73265
    have hv73247 := (yz73265.1 _ 2 (Or.inr (by decide))).trans hv73247
    have hfr : (∀ b j : Nat, (tag b ≠ 22 ∨ j ≠ 2) → (tag b ≠ 26 ∨ j ≠ 13) → fld F b j = fld Fo b j) ∧ EF tag F Fo := ⟨fun b j n22_2 n26_13 => (yz73265.1 b j n26_13).trans (hfr.1 b j n22_2 n26_13), fun b j hb => (yz73265.2 b j hb).trans (hfr.2 b j hb)⟩
    exact t_iret hQ X hT (⟨rg_all _, hfr⟩) (Nat.le_of_ble_eq_true rfl) (Nat.le_of_ble_eq_true rfl) dX11_orders_12
set_option maxHeartbeats 4000000 in
set_option maxRecDepth 100000 in
theorem kt170_X11_room (l : Launch) (G : KG) (tag : Nat → Nat) (L : List Nat) (Fo : Nat → va_E) (ho : okT G ttC tag L Fo) (p0 : Nat) (p1 : Int32) (m0 : p0 ∈ L) (g0 : tag p0 = 26) : TMi l yX11_room cX11_room 5 (some .int) { frames := 4, cells := 0, slots := 0, locals := 108 } G ttC tag L Fo [.ref p0, .int p1] (fun r F1 => ((-2147483648) ≤ r.toInt ∧ r.toInt ≤ 2147483647) ∧ ((∀ b j : Nat, (tag b ≠ 19 ∨ j ≠ 0) → (tag b ≠ 19 ∨ j ≠ 1) → (tag b ≠ 26 ∨ j ≠ 13) → fld F1 b j = fld Fo b j) ∧ EF tag F1 Fo)) := by
  refine t_bodyi (y := yX11_room) (cd := cX11_room) (mL := 5) (rt := (some .int)) (rm := { frames := 4, cells := 0, slots := 0, locals := 108 }) (av := [.ref p0, .int p1]) (by decide) (Nat.le_of_ble_eq_true rfl) ho ?_
  intro p e s m args below meth c ls A Q hQ X hT hl
  have hx := X.1.1
  have hb := X.1.2.1
  have hl : lv_has ls 5 [(0, .ref p0), (1, .int p1)] := hl
  have rp1 := rg_all p1
  obtain ⟨F, hFo⟩ : ∃ F : Nat → va_E, F = Fo := ⟨_, rfl⟩
  rw [← hFo] at hT
  have hfr : (∀ b j : Nat, (tag b ≠ 19 ∨ j ≠ 0) → (tag b ≠ 19 ∨ j ≠ 1) → (tag b ≠ 26 ∨ j ≠ 13) → fld F b j = fld Fo b j) ∧ EF tag F Fo := by
    rw [hFo]
    exact ⟨by intros; rfl, fun _ _ _ => rfl⟩
  have K29 : ∀ (n : Nat) (z74637 : Int32) (z74638 : Int32) (F : Nat → va_E) (H : Heap) (locs : List Loc) (ls : Array Slot), (6 - z74638.toInt < (n : Int)) → (0 ≤ z74638.toInt ∧ z74638.toInt ≤ 6) → (0 ≤ p1.toInt ∧ p1.toInt ≤ 3) → TH G ttC A s tag L F H locs → ((∀ b j : Nat, (tag b ≠ 19 ∨ j ≠ 0) → (tag b ≠ 19 ∨ j ≠ 1) → (tag b ≠ 26 ∨ j ≠ 13) → fld F b j = fld Fo b j) ∧ EF tag F Fo) → lv_has ls 5 [(0, .ref p0), (1, .int p1), (2, .int z74637), (3, .int z74638)] → W p l e { frames := 4, cells := 0, slots := 0, locals := 108 } s m args below meth c H locs 0 0 Q (F0 m 29 ls []) := by
    intro n
    induction n with
    | zero =>
      intro z74637 z74638 F H locs ls hn rz74638 r9s74636 hT hfr hl
      have rz74637 := rg_all z74637
      exfalso
      omega
    | succ n ih29 =>
      intro z74637 z74638 F H locs ls hn rz74638 r9s74636 hT hfr hl
      have rz74637 := rg_all z74637
      have K67 : ∀ (z74640 : Int32) (F : Nat → va_E) (H : Heap) (locs : List Loc) (ls : Array Slot), ((-2) ≤ z74640.toInt ∧ z74640.toInt ≤ 900) → (0 ≤ z74638.toInt ∧ z74638.toInt ≤ 5) → TH G ttC A s tag L F H locs → ((∀ b j : Nat, (tag b ≠ 19 ∨ j ≠ 0) → (tag b ≠ 19 ∨ j ≠ 1) → (tag b ≠ 26 ∨ j ≠ 13) → fld F b j = fld Fo b j) ∧ EF tag F Fo) → lv_has ls 5 [(0, .ref p0), (1, .int p1), (2, .int z74637), (3, .int z74638)] → W p l e { frames := 4, cells := 0, slots := 0, locals := 108 } s m args below meth c H locs 0 0 Q (F0 m 67 ls [.int z74640]) := by
        intro z74640 F H locs ls rz74640 r9s74639 hT hfr hl
        refine lv_istore (lv' := [(4, .int z74640), (0, .ref p0), (1, .int p1), (2, .int z74637), (3, .int z74638)]) hx hb dX11_room_67 hl (by decide) rfl (fun ls hl => ?_)
        refine lv_iload hx hb dX11_room_69 (lv_at hl 0 rfl) ?_
        refine lv_bipush (v := (-2)) hx hb dX11_room_71 (by decide) ?_
        refine lv_icmp_ne (tgt := 82) hx hb dX11_room_73 (by decide) (fun c74641 => ?_) (fun c74641 => ?_)
        · have w74642 := cv_ne (rfl : z74640.toInt = z74640.toInt) (by decide : ((-2) : Int32).toInt = (-2)) c74641
          refine lv_aload_n hx hb dX11_room_82 rfl (lv_at hl 1 rfl) ?_
          refine t_get (C := RX11) (T := TX11) (N := 16) X hT m0 g0 rfl rfl 7 (by decide) qw_25 inlX11 rfl dX11_room_83 (fun v74643 hv74643 ov74643 => ?_)
          obtain ⟨b74644, rfl, mb74644, gb74644⟩ := okV_r ov74643
          have gb74644 : tag b74644 = 19 := tg_of gb74644
          refine lv_iload_n hx hb dX11_room_86 rfl (lv_at hl 2 rfl) ?_
          refine lv_iconst (v := 0) hx hb dX11_room_87 (by decide) ?_
          refine lv_iload hx hb dX11_room_88 (lv_at hl 0 rfl) ?_
          refine lv_bipush (v := 100) hx hb dX11_room_90 (by decide) ?_
          refine lv_idiv hx hb dX11_room_92 (by decide) ?_
          refine lv_topi (fun z74645 ez74645 => ?_)
          have rz74645 := rg_all z74645
          refine lv_iload hx hb dX11_room_93 (lv_at hl 0 rfl) ?_
          refine lv_bipush (v := 100) hx hb dX11_room_95 (by decide) ?_
          refine lv_irem hx hb dX11_room_97 (by decide) ?_
          refine lv_topi (fun z74646 ez74646 => ?_)
          have rz74646 := rg_all z74646
          refine lv_iconst (v := 0) hx hb dX11_room_98 (by decide) ?_
          refine lv_aload_n hx hb dX11_room_99 rfl (lv_at hl 1 rfl) ?_
          refine t_get (C := RX11) (T := TX11) (N := 16) X hT m0 g0 rfl rfl 7 (by decide) qw_25 inlX11 rfl dX11_room_100 (fun v74647 hv74647 ov74647 => ?_)
          obtain rfl : v74647 = .ref b74644 := hv74647.symm.trans hv74643
          refine t_get (C := RX7) (T := TX7) (N := 7) X hT mb74644 gb74644 rfl rfl 0 (by decide) qw_1225 inlX7 rfl dX11_room_103 (fun v74648 hv74648 ov74648 => ?_)
          obtain ⟨z74649, rfl, rz74649⟩ := okV_i ov74648
          refine t_cVv (n := 6) (C := RX7) (T := TX7) (N := 7) (As := [.int p1, .int 0, .int z74645, .int z74646, .int 0, .int z74649]) (rest := []) X hT (kt17_X7_addSkin l G tag L F hT.2.2.2 b74644 p1 0 z74645 z74646 0 z74649 mb74644 gb74644 (by omega)) mb74644 gb74644 rfl rfl qw_1226 qw_419 qw_420 qw_22 qw_421 ⟨rfl, by decide +kernel, by decide +kernel, by decide +kernel⟩ ⟨Nat.le_of_ble_eq_true rfl, Nat.le_of_ble_eq_true rfl⟩ hl rfl rfl (Nat.le_of_ble_eq_true rfl) dX11_room_106 ⟨Nat.le_of_ble_eq_true rfl, Nat.le_of_ble_eq_true rfl⟩ (fun F H locs hT hz74650 => ?_)
          have yz74650 := hz74650
          have hv74643 := (yz74650.1 _ 7 ).trans hv74643
          have hv74648 := (yz74650.1 _ 0 ).trans hv74648
          have hfr : (∀ b j : Nat, (tag b ≠ 19 ∨ j ≠ 0) → (tag b ≠ 19 ∨ j ≠ 1) → (tag b ≠ 26 ∨ j ≠ 13) → fld F b j = fld Fo b j) ∧ EF tag F Fo := ⟨fun b j n19_0 n19_1 n26_13 => (yz74650.1 b j ).trans (hfr.1 b j n19_0 n19_1 n26_13), fun b j hb => (yz74650.2 b j hb).trans (hfr.2 b j hb)⟩
          obtain ⟨z74651, ez74651⟩ : ∃ y : Int32, y = z74637 + 1 := ⟨_, rfl⟩
          have rz74651 := rg_all z74651
          refine lv_iinc (v := z74651) (lv' := [(2, .int z74651), (4, .int z74640), (0, .ref p0), (1, .int p1), (3, .int z74638)]) hx hb dX11_room_109 hl (k := 3) rfl (by rw [ez74651]; rfl) (by decide) rfl (fun ls hl => ?_)
          obtain ⟨z74652, ez74652⟩ : ∃ y : Int32, y = z74638 + 1 := ⟨_, rfl⟩
          have hz74652 : z74652.toInt = z74638.toInt + 1 := ar_add ez74652 rfl (by decide : (1 : Int32).toInt = 1) (by omega) (by omega)
          refine lv_iinc (v := z74652) (lv' := [(3, .int z74652), (2, .int z74651), (4, .int z74640), (0, .ref p0), (1, .int p1)]) hx hb dX11_room_112 hl (k := 4) rfl (by rw [ez74652]; rfl) (by decide) rfl (fun ls hl => ?_)
          refine lv_goto (tgt := 29) hx hb dX11_room_115 (by decide) ?_
          exact ih29 z74651 z74652 _ _ _ _ (by omega) (by omega) (by omega) hT hfr  (lv_sub hl [3, 4, 1, 0] rfl)
        · have w74653 := cv_eq (rfl : z74640.toInt = z74640.toInt) (by decide : ((-2) : Int32).toInt = (-2)) c74641
          refine lv_aload_n hx hb dX11_room_76 rfl (lv_at hl 1 rfl) ?_
          refine lv_iload_n hx hb dX11_room_77 rfl (lv_at hl 3 rfl) ?_
          refine t_cVi (n := 1) (C := RX11) (T := TX11) (N := 16) (As := [.int z74637]) (rest := []) X hT (kt56_X11_answer l G tag L F hT.2.2.2 p0 z74637 m0 g0) m0 g0 rfl rfl qw_463 qw_464 qw_465 qw_2 qw_466 ⟨rfl, by decide +kernel, by decide +kernel, by decide +kernel⟩ ⟨Nat.le_of_ble_eq_true rfl, Nat.le_of_ble_eq_true rfl⟩ hl rfl rfl (Nat.le_of_ble_eq_true rfl) dX11_room_78 ⟨Nat.le_of_ble_eq_true rfl, Nat.le_of_ble_eq_true rfl⟩ (fun z74654 F H locs hT hz74654 => ?_)
          obtain ⟨hz74654, yz74654⟩ := hz74654
          have hfr : (∀ b j : Nat, (tag b ≠ 19 ∨ j ≠ 0) → (tag b ≠ 19 ∨ j ≠ 1) → (tag b ≠ 26 ∨ j ≠ 13) → fld F b j = fld Fo b j) ∧ EF tag F Fo := ⟨fun b j n19_0 n19_1 n26_13 => (yz74654.1 b j n26_13).trans (hfr.1 b j n19_0 n19_1 n26_13), fun b j hb => (yz74654.2 b j hb).trans (hfr.2 b j hb)⟩
          exact t_iret hQ X hT (⟨rg_all _, hfr⟩) (Nat.le_of_ble_eq_true rfl) (Nat.le_of_ble_eq_true rfl) dX11_room_81
      refine lv_iload_n hx hb dX11_room_29 rfl (lv_at hl 3 rfl) ?_
      refine lv_bipush (v := 6) hx hb dX11_room_30 (by decide) ?_
      refine lv_icmp_ge (tgt := 118) hx hb dX11_room_32 (by decide) (fun c74655 => ?_) (fun c74655 => ?_)
      · have w74656 := cv_le (by decide : (6 : Int32).toInt = 6) (rfl : z74638.toInt = z74638.toInt) c74655
        refine lv_aload_n hx hb dX11_room_118 rfl (lv_at hl 0 rfl) ?_
        refine lv_iload_n hx hb dX11_room_119 rfl (lv_at hl 2 rfl) ?_
        refine t_cVi (n := 1) (C := RX11) (T := TX11) (N := 16) (As := [.int z74637]) (rest := []) X hT (kt56_X11_answer l G tag L F hT.2.2.2 p0 z74637 m0 g0) m0 g0 rfl rfl qw_463 qw_464 qw_465 qw_2 qw_466 ⟨rfl, by decide +kernel, by decide +kernel, by decide +kernel⟩ ⟨Nat.le_of_ble_eq_true rfl, Nat.le_of_ble_eq_true rfl⟩ hl rfl rfl (Nat.le_of_ble_eq_true rfl) dX11_room_120 ⟨Nat.le_of_ble_eq_true rfl, Nat.le_of_ble_eq_true rfl⟩ (fun z74657 F H locs hT hz74657 => ?_)
        obtain ⟨hz74657, yz74657⟩ := hz74657
        have hfr : (∀ b j : Nat, (tag b ≠ 19 ∨ j ≠ 0) → (tag b ≠ 19 ∨ j ≠ 1) → (tag b ≠ 26 ∨ j ≠ 13) → fld F b j = fld Fo b j) ∧ EF tag F Fo := ⟨fun b j n19_0 n19_1 n26_13 => (yz74657.1 b j n26_13).trans (hfr.1 b j n19_0 n19_1 n26_13), fun b j hb => (yz74657.2 b j hb).trans (hfr.2 b j hb)⟩
        exact t_iret hQ X hT (⟨rg_all _, hfr⟩) (Nat.le_of_ble_eq_true rfl) (Nat.le_of_ble_eq_true rfl) dX11_room_123
      · have w74658 := cv_nle (by decide : (6 : Int32).toInt = 6) (rfl : z74638.toInt = z74638.toInt) c74655
        refine lv_aload_n hx hb dX11_room_35 rfl (lv_at hl 0 rfl) ?_
        refine t_get (C := RX11) (T := TX11) (N := 16) X hT m0 g0 rfl rfl 3 (by decide) qw_18 inlX11 rfl dX11_room_36 (fun v74659 hv74659 ov74659 => ?_)
        obtain ⟨b74660, rfl, mb74660, gb74660⟩ := okV_r ov74659
        have gb74660 : tag b74660 = 18 := tg_of gb74660
        refine lv_aload_n hx hb dX11_room_39 rfl (lv_at hl 0 rfl) ?_
        refine t_get (C := RX11) (T := TX11) (N := 16) X hT m0 g0 rfl rfl 7 (by decide) qw_25 inlX11 rfl dX11_room_40 (fun v74661 hv74661 ov74661 => ?_)
        obtain ⟨b74662, rfl, mb74662, gb74662⟩ := okV_r ov74661
        have gb74662 : tag b74662 = 19 := tg_of gb74662
        refine lv_iload_n hx hb dX11_room_43 rfl (lv_at hl 1 rfl) ?_
        refine t_cSi (n := 3) (As := [.ref b74660, .ref b74662, .int p1]) (rest := []) X hT (kt31_X6_isFit l G tag L F hT.2.2.2 b74660 b74662 p1 mb74660 gb74660 mb74662 gb74662 (by omega)) qw_904 qw_403 qw_380 qw_404 ⟨by decide +kernel, by decide +kernel, by decide +kernel⟩ ⟨Nat.le_of_ble_eq_true rfl, Nat.le_of_ble_eq_true rfl⟩ hl rfl rfl (Nat.le_of_ble_eq_true rfl) dX11_room_44 ⟨Nat.le_of_ble_eq_true rfl, Nat.le_of_ble_eq_true rfl⟩ (fun z74663 F9 H locs hT hz74663 => ?_)
        obtain ⟨fz74663, hz74663⟩ := hz74663
        rw [fz74663] at hT
        refine lv_if_eq (tgt := 65) hx hb dX11_room_47 (by decide) (fun c74664 => ?_) (fun c74664 => ?_)
        · have w74665 := cv_eq (rfl : z74663.toInt = z74663.toInt) (by decide : (0 : Int32).toInt = 0) c74664
          refine lv_bipush (v := (-2)) hx hb dX11_room_65 (by decide) ?_
          exact K67 (-2) _ _ _ _ (by decide) (by omega) hT hfr  (lv_sub hl [0, 1, 2, 3] rfl)
        · have w74666 := cv_ne (rfl : z74663.toInt = z74663.toInt) (by decide : (0 : Int32).toInt = 0) c74664
          refine lv_aload_n hx hb dX11_room_50 rfl (lv_at hl 0 rfl) ?_
          refine t_get (C := RX11) (T := TX11) (N := 16) X hT m0 g0 rfl rfl 3 (by decide) qw_18 inlX11 rfl dX11_room_51 (fun v74667 hv74667 ov74667 => ?_)
          obtain rfl : v74667 = .ref b74660 := hv74667.symm.trans hv74659
          refine lv_aload_n hx hb dX11_room_54 rfl (lv_at hl 0 rfl) ?_
          refine t_get (C := RX11) (T := TX11) (N := 16) X hT m0 g0 rfl rfl 7 (by decide) qw_25 inlX11 rfl dX11_room_55 (fun v74668 hv74668 ov74668 => ?_)
          obtain rfl : v74668 = .ref b74662 := hv74668.symm.trans hv74661
          refine lv_iload_n hx hb dX11_room_58 rfl (lv_at hl 1 rfl) ?_
          refine t_cSi (n := 3) (As := [.ref b74660, .ref b74662, .int p1]) (rest := []) X hT (kt44_X6_lawDoor l G tag L F hT.2.2.2 b74660 b74662 p1 mb74660 gb74660 mb74662 gb74662 (by omega)) qw_913 qw_914 qw_380 qw_915 ⟨by decide +kernel, by decide +kernel, by decide +kernel⟩ ⟨Nat.le_of_ble_eq_true rfl, Nat.le_of_ble_eq_true rfl⟩ hl rfl rfl (Nat.le_of_ble_eq_true rfl) dX11_room_59 ⟨Nat.le_of_ble_eq_true rfl, Nat.le_of_ble_eq_true rfl⟩ (fun z74669 F9 H locs hT hz74669 => ?_)
          obtain ⟨fz74669, hz74669⟩ := hz74669
          rw [fz74669] at hT
          refine lv_goto (tgt := 67) hx hb dX11_room_62 (by decide) ?_
          exact K67 z74669 _ _ _ _ (by omega) (by omega) hT hfr  (lv_sub hl [0, 1, 2, 3] rfl)
  refine lv_aload_n hx hb dX11_room_0 rfl (lv_at hl 0 rfl) ?_
  refine lv_iload_n hx hb dX11_room_1 rfl (lv_at hl 1 rfl) ?_
  refine t_cVi (n := 1) (C := RX11) (T := TX11) (N := 16) (As := [.int p1]) (rest := []) X hT (kt61_X11_isHouse l G tag L F hT.2.2.2 p0 p1 m0 g0) m0 g0 rfl rfl qw_770 qw_771 qw_772 qw_2 qw_773 ⟨rfl, by decide +kernel, by decide +kernel, by decide +kernel⟩ ⟨Nat.le_of_ble_eq_true rfl, Nat.le_of_ble_eq_true rfl⟩ hl rfl rfl (Nat.le_of_ble_eq_true rfl) dX11_room_2 ⟨Nat.le_of_ble_eq_true rfl, Nat.le_of_ble_eq_true rfl⟩ (fun z74670 F9 H locs hT hz74670 => ?_)
  obtain ⟨fz74670, hz74670⟩ := hz74670
  rw [fz74670] at hT
  obtain ⟨hz74670, iz74670⟩ := hz74670
  refine lv_if_ne (tgt := 14) hx hb dX11_room_5 (by decide) (fun c74671 => ?_) (fun c74671 => ?_)
  · have w74672 := cv_ne (rfl : z74670.toInt = z74670.toInt) (by decide : (0 : Int32).toInt = 0) c74671
    have w74673 := (fun h => (iz74670 h)) (by omega)
    refine lv_aload_n hx hb dX11_room_14 rfl (lv_at hl 0 rfl) ?_
    refine t_get (C := RX11) (T := TX11) (N := 16) X hT m0 g0 rfl rfl 7 (by decide) qw_25 inlX11 rfl dX11_room_15 (fun v74674 hv74674 ov74674 => ?_)
    obtain ⟨b74675, rfl, mb74675, gb74675⟩ := okV_r ov74674
    have gb74675 : tag b74675 = 19 := tg_of gb74675
    refine lv_aload_n hx hb dX11_room_18 rfl (lv_at hl 0 rfl) ?_
    refine t_get (C := RX11) (T := TX11) (N := 16) X hT m0 g0 rfl rfl 5 (by decide) qw_23 inlX11 rfl dX11_room_19 (fun v74676 hv74676 ov74676 => ?_)
    obtain ⟨b74677, rfl, mb74677, gb74677⟩ := okV_r ov74676
    have gb74677 : tag b74677 = 19 := tg_of gb74677
    refine t_cVv (n := 1) (C := RX7) (T := TX7) (N := 7) (As := [.ref b74677]) (rest := []) X hT (kt49_X7_copyFrom l G tag L F hT.2.2.2 b74675 b74677 mb74675 gb74675 mb74677 gb74677) mb74675 gb74675 rfl rfl qw_449 qw_450 qw_451 qw_22 qw_452 ⟨rfl, by decide +kernel, by decide +kernel, by decide +kernel⟩ ⟨Nat.le_of_ble_eq_true rfl, Nat.le_of_ble_eq_true rfl⟩ hl rfl rfl (Nat.le_of_ble_eq_true rfl) dX11_room_22 ⟨Nat.le_of_ble_eq_true rfl, Nat.le_of_ble_eq_true rfl⟩ (fun F H locs hT hz74678 => ?_)
    have yz74678 := hz74678
    have hv74674 := (yz74678.1 _ 7 (Or.inr (by decide)) (Or.inr (by decide))).trans hv74674
    have hv74676 := (yz74678.1 _ 5 (Or.inr (by decide)) (Or.inr (by decide))).trans hv74676
    have hfr : (∀ b j : Nat, (tag b ≠ 19 ∨ j ≠ 0) → (tag b ≠ 19 ∨ j ≠ 1) → (tag b ≠ 26 ∨ j ≠ 13) → fld F b j = fld Fo b j) ∧ EF tag F Fo := ⟨fun b j n19_0 n19_1 n26_13 => (yz74678.1 b j n19_0 n19_1).trans (hfr.1 b j n19_0 n19_1 n26_13), fun b j hb => (yz74678.2 b j hb).trans (hfr.2 b j hb)⟩
    refine lv_iconst (v := 0) hx hb dX11_room_25 (by decide) ?_
    refine lv_istore_n (lv' := [(2, .int 0), (0, .ref p0), (1, .int p1)]) hx hb dX11_room_26 rfl hl (by decide) rfl (fun ls hl => ?_)
    refine lv_iconst (v := 0) hx hb dX11_room_27 (by decide) ?_
    refine lv_istore_n (lv' := [(3, .int 0), (2, .int 0), (0, .ref p0), (1, .int p1)]) hx hb dX11_room_28 rfl hl (by decide) rfl (fun ls hl => ?_)
    have kk74679 : (0 : Int32).toInt = 0 := by decide
    have kk74680 : (0 : Int32).toInt = 0 := by decide
    exact K29 7 0 0 _ _ _ _ (by omega) (by decide) (by omega) hT hfr  (lv_sub hl [2, 3, 1, 0] rfl)
  · have w74681 := cv_eq (rfl : z74670.toInt = z74670.toInt) (by decide : (0 : Int32).toInt = 0) c74671
    refine lv_aload_n hx hb dX11_room_8 rfl (lv_at hl 0 rfl) ?_
    refine lv_iconst (v := 1) hx hb dX11_room_9 (by decide) ?_
    refine t_cVi (n := 1) (C := RX11) (T := TX11) (N := 16) (As := [.int 1]) (rest := []) X hT (kt63_X11_refuse l G tag L F hT.2.2.2 p0 1 m0 g0) m0 g0 rfl rfl qw_152 qw_153 qw_154 qw_2 qw_155 ⟨rfl, by decide +kernel, by decide +kernel, by decide +kernel⟩ ⟨Nat.le_of_ble_eq_true rfl, Nat.le_of_ble_eq_true rfl⟩ hl rfl rfl (Nat.le_of_ble_eq_true rfl) dX11_room_10 ⟨Nat.le_of_ble_eq_true rfl, Nat.le_of_ble_eq_true rfl⟩ (fun z74682 F H locs hT hz74682 => ?_)
    obtain ⟨hz74682, yz74682⟩ := hz74682
    have hfr : (∀ b j : Nat, (tag b ≠ 19 ∨ j ≠ 0) → (tag b ≠ 19 ∨ j ≠ 1) → (tag b ≠ 26 ∨ j ≠ 13) → fld F b j = fld Fo b j) ∧ EF tag F Fo := ⟨fun b j n19_0 n19_1 n26_13 => (yz74682.1 b j n26_13).trans (hfr.1 b j n19_0 n19_1 n26_13), fun b j hb => (yz74682.2 b j hb).trans (hfr.2 b j hb)⟩
    exact t_iret hQ X hT (⟨rg_all _, hfr⟩) (Nat.le_of_ble_eq_true rfl) (Nat.le_of_ble_eq_true rfl) dX11_room_13
