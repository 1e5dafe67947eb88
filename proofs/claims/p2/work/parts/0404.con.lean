set_option maxHeartbeats 4000000 in
set_option maxRecDepth 100000 in
theorem km26_X13_readFresh (l : Launch) (G : KG) (tag : Nat → Nat) (L : List Nat) (Fo : Nat → va_E) (ho : okT G ttC tag L Fo) (p0 : Nat) (x0 : Nat) (x1 : Nat) (x2 : Nat) (x3 : Int32) (x4 : Int32) (x5 : Int32) (m0 : p0 ∈ L) (g0 : tag p0 = 46) (mx0 : x0 ∈ L) (gx0 : tag x0 = 44) (pf0 : fld Fo p0 4 = .ref x0) (mx1 : x1 ∈ L) (gx1 : tag x1 = 35) (pf1 : fld Fo x0 28 = .ref x1) (mx2 : x2 ∈ L) (gx2 : tag x2 = 36) (pf2 : fld Fo x0 29 = .ref x2) (hx3 : 0 ≤ x3.toInt ∧ x3.toInt ≤ 5) (pf3 : fld Fo p0 9 = .int x3) (hx4 : 0 ≤ x4.toInt ∧ x4.toInt ≤ 1000) (pf4 : fld Fo p0 8 = .int x4) (hx5 : 0 ≤ x5.toInt ∧ x5.toInt ≤ 7) (pf5 : fld Fo p0 13 = .int x5) (hkf : KF x3 x5) : TMl l yX13_readFresh cX13_readFresh 3 { frames := 7, cells := 0, slots := 0, locals := 149 } G ttC tag L Fo [.ref p0] (fun r F1 => ((∀ b j : Nat, (tag b ≠ 46 ∨ j ≠ 8) → (tag b ≠ 46 ∨ j ≠ 9) → (tag b ≠ 46 ∨ j ≠ 10) → (tag b ≠ 46 ∨ j ≠ 11) → (tag b ≠ 46 ∨ j ≠ 12) → (tag b ≠ 46 ∨ j ≠ 13) → (tag b ≠ 46 ∨ j ≠ 14) → (tag b ≠ 46 ∨ j ≠ 15) → fld F1 b j = fld Fo b j) ∧ (∀ b j : Nat, elm F1 b j = elm Fo b j)) ∧ (∃ so sp fa : Int32, fld F1 p0 9 = .int so ∧ fld F1 p0 8 = .int sp ∧ fld F1 p0 13 = .int fa ∧ (0 ≤ so.toInt ∧ so.toInt ≤ 5) ∧ (0 ≤ sp.toInt ∧ sp.toInt ≤ 1000) ∧ (0 ≤ fa.toInt ∧ fa.toInt ≤ 7) ∧ STK x3 so ∧ SPT x3 x4 so sp ∧ KF so fa)) := by
  refine t_bodyl (y := yX13_readFresh) (cd := cX13_readFresh) (mL := 3) (rm := { frames := 7, cells := 0, slots := 0, locals := 149 }) (av := [.ref p0]) (by decide) (Nat.le_of_ble_eq_true rfl) ho ?_
  intro p e s m args below meth c ls A Q hQ X hT hl
  have hx := X.1.1
  have hb := X.1.2.1
  have hl : lv_has ls 3 [(0, .ref p0)] := hl
  obtain ⟨F, hFo⟩ : ∃ F : Nat → va_E, F = Fo := ⟨_, rfl⟩
  rw [← hFo] at hT pf0 pf1 pf2 pf3 pf4 pf5
  have hfr : (∀ b j : Nat, (tag b ≠ 46 ∨ j ≠ 8) → (tag b ≠ 46 ∨ j ≠ 9) → (tag b ≠ 46 ∨ j ≠ 10) → (tag b ≠ 46 ∨ j ≠ 11) → (tag b ≠ 46 ∨ j ≠ 12) → (tag b ≠ 46 ∨ j ≠ 13) → (tag b ≠ 46 ∨ j ≠ 14) → (tag b ≠ 46 ∨ j ≠ 15) → fld F b j = fld Fo b j) ∧ (∀ b j : Nat, elm F b j = elm Fo b j) := by
    rw [hFo]
    exact ⟨by intros; rfl, by intros; rfl⟩
  have hstk : STK x3 x3 := STK.rf
  have hspt : SPT x3 x4 x3 x4 := SPT.rf
  have K32 : ∀ (z10824 : Int32) (z10825 : Int32) (z10826 : Int32) (F : Nat → va_E) (H : Heap) (locs : List Loc) (ls : Array Slot), (0 ≤ z10824.toInt ∧ z10824.toInt ≤ 5) → (0 ≤ z10825.toInt ∧ z10825.toInt ≤ 1000) → (0 ≤ z10826.toInt ∧ z10826.toInt ≤ 7) → TH G ttC A s tag L F H locs → ((∀ b j : Nat, (tag b ≠ 46 ∨ j ≠ 8) → (tag b ≠ 46 ∨ j ≠ 9) → (tag b ≠ 46 ∨ j ≠ 10) → (tag b ≠ 46 ∨ j ≠ 11) → (tag b ≠ 46 ∨ j ≠ 12) → (tag b ≠ 46 ∨ j ≠ 13) → (tag b ≠ 46 ∨ j ≠ 14) → (tag b ≠ 46 ∨ j ≠ 15) → fld F b j = fld Fo b j) ∧ (∀ b j : Nat, elm F b j = elm Fo b j)) → (fld F p0 4 = .ref x0) → (fld F x0 28 = .ref x1) → (fld F x0 29 = .ref x2) → (fld F p0 9 = .int z10824) → (fld F p0 8 = .int z10825) → (fld F p0 13 = .int z10826) → (STK x3 z10824) → (SPT x3 x4 z10824 z10825) → (KF z10824 z10826) → lv_has ls 3 [(0, .ref p0)] → W p l e { frames := 7, cells := 0, slots := 0, locals := 149 } s m args below meth c H locs 0 0 Q (F0 m 32 ls []) := by
    intro z10824 z10825 z10826 F H locs ls rz10824 rz10825 rz10826 hT hfr pf0 pf1 pf2 qz10824 qz10825 qz10826 hstk hspt hkf hl
    refine lv_aload_n hx hb dX13_readFresh_32 rfl (lv_at hl 0 rfl) ?_
    refine t_get (C := RX13) (T := TX13) (N := 37) X hT m0 g0 rfl rfl 15 (by decide) qw_514 inlX13 rfl dX13_readFresh_33 (fun v10827 hv10827 ov10827 => ?_)
    obtain ⟨z10828, rfl⟩ := ov10827
    refine lv_lstore_n (lv' := [(1, .long z10828), (0, .ref p0)]) hx hb dX13_readFresh_36 rfl hl (by decide) rfl (fun ls hl => ?_)
    refine lv_aload_n hx hb dX13_readFresh_37 rfl (lv_at hl 1 rfl) ?_
    refine t_cVv (n := 0) (C := RX13) (T := TX13) (N := 37) (As := []) (rest := []) X hT (km14_X13_goesOn l G tag L F hT.2.2.2 p0 x0 x1 x2 z10824 z10825 z10826 m0 g0 mx0 gx0 pf0 mx1 gx1 pf1 mx2 gx2 pf2 (by omega) qz10824 (by omega) qz10825 (by omega) qz10826 hkf) m0 g0 rfl rfl qw_508 qw_509 qw_510 qw_5 qw_511 ⟨rfl, by decide +kernel, by decide +kernel, by decide +kernel⟩ ⟨Nat.le_of_ble_eq_true rfl, Nat.le_of_ble_eq_true rfl⟩ hl rfl rfl (Nat.le_of_ble_eq_true rfl) dX13_readFresh_38 ⟨Nat.le_of_ble_eq_true rfl, Nat.le_of_ble_eq_true rfl⟩ (fun F H locs hT hz10829 => ?_)
    obtain ⟨yz10829, ⟨soz10829, spz10829, faz10829, qsoz10829, qspz10829, qfaz10829, rsoz10829, rspz10829, rfaz10829, stz10829, ptz10829, hkf⟩⟩ := hz10829
    have qz10826 := (yz10829.1 _ 13 (Or.inr (by decide)) (Or.inr (by decide)) (Or.inr (by decide)) (Or.inr (by decide)) (Or.inr (by decide)) (Or.inr (by decide))).trans qz10826
    have pf0 := (yz10829.1 _ 4 (Or.inr (by decide)) (Or.inr (by decide)) (Or.inr (by decide)) (Or.inr (by decide)) (Or.inr (by decide)) (Or.inr (by decide))).trans pf0
    have pf1 := (yz10829.1 _ 28 (Or.inr (by decide)) (Or.inr (by decide)) (Or.inr (by decide)) (Or.inr (by decide)) (Or.inr (by decide)) (Or.inr (by decide))).trans pf1
    have pf2 := (yz10829.1 _ 29 (Or.inr (by decide)) (Or.inr (by decide)) (Or.inr (by decide)) (Or.inr (by decide)) (Or.inr (by decide)) (Or.inr (by decide))).trans pf2
    have hfr : (∀ b j : Nat, (tag b ≠ 46 ∨ j ≠ 8) → (tag b ≠ 46 ∨ j ≠ 9) → (tag b ≠ 46 ∨ j ≠ 10) → (tag b ≠ 46 ∨ j ≠ 11) → (tag b ≠ 46 ∨ j ≠ 12) → (tag b ≠ 46 ∨ j ≠ 13) → (tag b ≠ 46 ∨ j ≠ 14) → (tag b ≠ 46 ∨ j ≠ 15) → fld F b j = fld Fo b j) ∧ (∀ b j : Nat, elm F b j = elm Fo b j) := ⟨fun b j n46_8 n46_9 n46_10 n46_11 n46_12 n46_13 n46_14 n46_15 => (yz10829.1 b j n46_8 n46_9 n46_10 n46_11 n46_12 n46_15).trans (hfr.1 b j n46_8 n46_9 n46_10 n46_11 n46_12 n46_13 n46_14 n46_15), fun b j  => (yz10829.2 b j ).trans (hfr.2 b j )⟩
    have hstk := STK.tr hstk stz10829
    have hspt := SPT.tr hspt ptz10829
    refine lv_lload_n hx hb dX13_readFresh_41 rfl (lv_at hl 0 rfl) ?_
    exact t_lret hQ X hT ⟨hfr, ⟨soz10829, spz10829, faz10829, qsoz10829, qspz10829, qfaz10829, (by omega), (by omega), (by omega), hstk, hspt, hkf⟩⟩ (Nat.le_of_ble_eq_true rfl) (Nat.le_of_ble_eq_true rfl) dX13_readFresh_42
  have K12 : ∀ (z10830 : Int32) (z10831 : Int32) (z10832 : Int32) (F : Nat → va_E) (H : Heap) (locs : List Loc) (ls : Array Slot), (0 ≤ z10830.toInt ∧ z10830.toInt ≤ 5) → (0 ≤ z10831.toInt ∧ z10831.toInt ≤ 1000) → (0 ≤ z10832.toInt ∧ z10832.toInt ≤ 7) → TH G ttC A s tag L F H locs → ((∀ b j : Nat, (tag b ≠ 46 ∨ j ≠ 8) → (tag b ≠ 46 ∨ j ≠ 9) → (tag b ≠ 46 ∨ j ≠ 10) → (tag b ≠ 46 ∨ j ≠ 11) → (tag b ≠ 46 ∨ j ≠ 12) → (tag b ≠ 46 ∨ j ≠ 13) → (tag b ≠ 46 ∨ j ≠ 14) → (tag b ≠ 46 ∨ j ≠ 15) → fld F b j = fld Fo b j) ∧ (∀ b j : Nat, elm F b j = elm Fo b j)) → (fld F p0 4 = .ref x0) → (fld F x0 28 = .ref x1) → (fld F x0 29 = .ref x2) → (fld F p0 9 = .int z10830) → (fld F p0 8 = .int z10831) → (fld F p0 13 = .int z10832) → (STK x3 z10830) → (SPT x3 x4 z10830 z10831) → (KF z10830 z10832) → lv_has ls 3 [(0, .ref p0)] → W p l e { frames := 7, cells := 0, slots := 0, locals := 149 } s m args below meth c H locs 0 0 Q (F0 m 12 ls []) := by
    intro z10830 z10831 z10832 F H locs ls rz10830 rz10831 rz10832 hT hfr pf0 pf1 pf2 qz10830 qz10831 qz10832 hstk hspt hkf hl
    refine lv_aload_n hx hb dX13_readFresh_12 rfl (lv_at hl 0 rfl) ?_
    refine t_get (C := RX13) (T := TX13) (N := 37) X hT m0 g0 rfl rfl 4 (by decide) qw_477 inlX13 rfl dX13_readFresh_13 (fun v10833 hv10833 ov10833 => ?_)
    obtain rfl : v10833 = .ref x0 := hv10833.symm.trans pf0
    refine lv_aload_n hx hb dX13_readFresh_16 rfl (lv_at hl 0 rfl) ?_
    refine t_get (C := RX13) (T := TX13) (N := 37) X hT m0 g0 rfl rfl 15 (by decide) qw_514 inlX13 rfl dX13_readFresh_17 (fun v10834 hv10834 ov10834 => ?_)
    obtain ⟨z10835, rfl⟩ := ov10834
    refine t_cVi (n := 1) (C := RX12) (T := TX12) (N := 31) (As := [.long z10835]) (rest := []) X hT (km17_X12_find l G tag L F hT.2.2.2 x0 z10835 mx0 gx0) mx0 gx0 rfl rfl qw_603 qw_604 qw_605 qw_476 qw_606 ⟨rfl, by decide +kernel, by decide +kernel, by decide +kernel⟩ ⟨Nat.le_of_ble_eq_true rfl, Nat.le_of_ble_eq_true rfl⟩ hl rfl rfl (Nat.le_of_ble_eq_true rfl) dX13_readFresh_20 ⟨Nat.le_of_ble_eq_true rfl, Nat.le_of_ble_eq_true rfl⟩ (fun z10836 F9 H locs hT hz10836 => ?_)
    obtain ⟨fz10836, hz10836⟩ := hz10836
    rw [fz10836] at hT
    refine lv_iconst (v := (-1)) hx hb dX13_readFresh_23 (by decide) ?_
    refine lv_icmp_eq (tgt := 32) hx hb dX13_readFresh_24 (by decide) (fun c10837 => ?_) (fun c10837 => ?_)
    · have w10838 := cv_eq (rfl : z10836.toInt = z10836.toInt) (by decide : ((-1) : Int32).toInt = (-1)) c10837
      exact K32 z10830 z10831 z10832 _ _ _ _ (by omega) (by omega) (by omega) hT hfr pf0 pf1 pf2 qz10830 qz10831 qz10832 hstk hspt hkf (lv_sub hl [0] rfl)
    · have w10839 := cv_ne (rfl : z10836.toInt = z10836.toInt) (by decide : ((-1) : Int32).toInt = (-1)) c10837
      refine lv_aload_n hx hb dX13_readFresh_27 rfl (lv_at hl 0 rfl) ?_
      refine lv_iconst (v := 3) hx hb dX13_readFresh_28 (by decide) ?_
      refine t_cVv (n := 1) (C := RX13) (T := TX13) (N := 37) (As := [.int 3]) (rest := []) X hT (km10_X13_flaw l G tag L F hT.2.2.2 p0 3 x0 x1 x2 z10830 z10831 z10832 m0 g0 (by decide) mx0 gx0 pf0 mx1 gx1 pf1 mx2 gx2 pf2 (by omega) qz10830 (by omega) qz10831 (by omega) qz10832 hkf) m0 g0 rfl rfl qw_548 qw_549 qw_550 qw_5 qw_551 ⟨rfl, by decide +kernel, by decide +kernel, by decide +kernel⟩ ⟨Nat.le_of_ble_eq_true rfl, Nat.le_of_ble_eq_true rfl⟩ hl rfl rfl (Nat.le_of_ble_eq_true rfl) dX13_readFresh_29 ⟨Nat.le_of_ble_eq_true rfl, Nat.le_of_ble_eq_true rfl⟩ (fun F H locs hT hz10840 => ?_)
      obtain ⟨yz10840, ⟨soz10840, spz10840, faz10840, qsoz10840, qspz10840, qfaz10840, rsoz10840, rspz10840, rfaz10840, stz10840, ptz10840, hkf, pxz10840_0⟩⟩ := hz10840
      have qz10831 := (yz10840.1 _ 8 (Or.inr (by decide)) (Or.inr (by decide)) (Or.inr (by decide))).trans qz10831
      have pf0 := (yz10840.1 _ 4 (Or.inr (by decide)) (Or.inr (by decide)) (Or.inr (by decide))).trans pf0
      have pf1 := (yz10840.1 _ 28 (Or.inr (by decide)) (Or.inr (by decide)) (Or.inr (by decide))).trans pf1
      have pf2 := (yz10840.1 _ 29 (Or.inr (by decide)) (Or.inr (by decide)) (Or.inr (by decide))).trans pf2
      have hfr : (∀ b j : Nat, (tag b ≠ 46 ∨ j ≠ 8) → (tag b ≠ 46 ∨ j ≠ 9) → (tag b ≠ 46 ∨ j ≠ 10) → (tag b ≠ 46 ∨ j ≠ 11) → (tag b ≠ 46 ∨ j ≠ 12) → (tag b ≠ 46 ∨ j ≠ 13) → (tag b ≠ 46 ∨ j ≠ 14) → (tag b ≠ 46 ∨ j ≠ 15) → fld F b j = fld Fo b j) ∧ (∀ b j : Nat, elm F b j = elm Fo b j) := ⟨fun b j n46_8 n46_9 n46_10 n46_11 n46_12 n46_13 n46_14 n46_15 => (yz10840.1 b j n46_9 n46_13 n46_14).trans (hfr.1 b j n46_8 n46_9 n46_10 n46_11 n46_12 n46_13 n46_14 n46_15), fun b j  => (yz10840.2 b j ).trans (hfr.2 b j )⟩
      have hstk := STK.tr hstk stz10840
      have hspt := SPT.tr hspt ptz10840
      exact K32 soz10840 spz10840 faz10840 _ _ _ _ (by omega) (by omega) (by omega) hT hfr pf0 pf1 pf2 qsoz10840 qspz10840 qfaz10840 hstk hspt hkf (lv_sub hl [0] rfl)
  refine lv_aload_n hx hb dX13_readFresh_0 rfl (lv_at hl 0 rfl) ?_
  refine t_cVi (n := 0) (C := RX13) (T := TX13) (N := 37) (As := []) (rest := []) X hT (km16_X13_isName l G tag L F hT.2.2.2 p0 x3 m0 g0 (by omega) pf3) m0 g0 rfl rfl qw_599 qw_600 qw_601 qw_5 qw_602 ⟨rfl, by decide +kernel, by decide +kernel, by decide +kernel⟩ ⟨Nat.le_of_ble_eq_true rfl, Nat.le_of_ble_eq_true rfl⟩ hl rfl rfl (Nat.le_of_ble_eq_true rfl) dX13_readFresh_1 ⟨Nat.le_of_ble_eq_true rfl, Nat.le_of_ble_eq_true rfl⟩ (fun z10841 F9 H locs hT hz10841 => ?_)
  obtain ⟨fz10841, hz10841⟩ := hz10841
  rw [fz10841] at hT
  refine lv_if_ne (tgt := 12) hx hb dX13_readFresh_4 (by decide) (fun c10842 => ?_) (fun c10842 => ?_)
  · have w10843 := cv_ne (rfl : z10841.toInt = z10841.toInt) (by decide : (0 : Int32).toInt = 0) c10842
    exact K12 x3 x4 x5 _ _ _ _ (by omega) (by omega) (by omega) hT hfr pf0 pf1 pf2 pf3 pf4 pf5 hstk hspt hkf (lv_sub hl [0] rfl)
  · have w10844 := cv_eq (rfl : z10841.toInt = z10841.toInt) (by decide : (0 : Int32).toInt = 0) c10842
    refine lv_aload_n hx hb dX13_readFresh_7 rfl (lv_at hl 0 rfl) ?_
    refine lv_iconst (v := 1) hx hb dX13_readFresh_8 (by decide) ?_
    refine t_cVv (n := 1) (C := RX13) (T := TX13) (N := 37) (As := [.int 1]) (rest := []) X hT (km10_X13_flaw l G tag L F hT.2.2.2 p0 1 x0 x1 x2 x3 x4 x5 m0 g0 (by decide) mx0 gx0 pf0 mx1 gx1 pf1 mx2 gx2 pf2 (by omega) pf3 (by omega) pf4 (by omega) pf5 hkf) m0 g0 rfl rfl qw_548 qw_549 qw_550 qw_5 qw_551 ⟨rfl, by decide +kernel, by decide +kernel, by decide +kernel⟩ ⟨Nat.le_of_ble_eq_true rfl, Nat.le_of_ble_eq_true rfl⟩ hl rfl rfl (Nat.le_of_ble_eq_true rfl) dX13_readFresh_9 ⟨Nat.le_of_ble_eq_true rfl, Nat.le_of_ble_eq_true rfl⟩ (fun F H locs hT hz10845 => ?_)
    obtain ⟨yz10845, ⟨soz10845, spz10845, faz10845, qsoz10845, qspz10845, qfaz10845, rsoz10845, rspz10845, rfaz10845, stz10845, ptz10845, hkf, pxz10845_0⟩⟩ := hz10845
    have pf0 := (yz10845.1 _ 4 (Or.inr (by decide)) (Or.inr (by decide)) (Or.inr (by decide))).trans pf0
    have pf1 := (yz10845.1 _ 28 (Or.inr (by decide)) (Or.inr (by decide)) (Or.inr (by decide))).trans pf1
    have pf2 := (yz10845.1 _ 29 (Or.inr (by decide)) (Or.inr (by decide)) (Or.inr (by decide))).trans pf2
    have pf4 := (yz10845.1 _ 8 (Or.inr (by decide)) (Or.inr (by decide)) (Or.inr (by decide))).trans pf4
    have hfr : (∀ b j : Nat, (tag b ≠ 46 ∨ j ≠ 8) → (tag b ≠ 46 ∨ j ≠ 9) → (tag b ≠ 46 ∨ j ≠ 10) → (tag b ≠ 46 ∨ j ≠ 11) → (tag b ≠ 46 ∨ j ≠ 12) → (tag b ≠ 46 ∨ j ≠ 13) → (tag b ≠ 46 ∨ j ≠ 14) → (tag b ≠ 46 ∨ j ≠ 15) → fld F b j = fld Fo b j) ∧ (∀ b j : Nat, elm F b j = elm Fo b j) := ⟨fun b j n46_8 n46_9 n46_10 n46_11 n46_12 n46_13 n46_14 n46_15 => (yz10845.1 b j n46_9 n46_13 n46_14).trans (hfr.1 b j n46_8 n46_9 n46_10 n46_11 n46_12 n46_13 n46_14 n46_15), fun b j  => (yz10845.2 b j ).trans (hfr.2 b j )⟩
    have hstk := STK.tr hstk stz10845
    have hspt := SPT.tr hspt ptz10845
    exact K12 soz10845 spz10845 faz10845 _ _ _ _ (by omega) (by omega) (by omega) hT hfr pf0 pf1 pf2 qsoz10845 qspz10845 qfaz10845 hstk hspt hkf (lv_sub hl [0] rfl)
set_option maxHeartbeats 4000000 in
set_option maxRecDepth 100000 in
theorem km27_X13_names (l : Launch) (G : KG) (tag : Nat → Nat) (L : List Nat) (Fo : Nat → va_E) (ho : okT G ttC tag L Fo) (p0 : Nat) (p1 : Int64) (p2 : Int32) (p3 : Int32) (x0 : Nat) (x1 : Nat) (x2 : Nat) (x3 : Int32) (m0 : p0 ∈ L) (g0 : tag p0 = 46) (h2 : 3 ≤ p2.toInt ∧ p2.toInt ≤ 3) (h3 : 0 ≤ p3.toInt ∧ p3.toInt ≤ 5) (mx0 : x0 ∈ L) (gx0 : tag x0 = 44) (pf0 : fld Fo p0 4 = .ref x0) (mx1 : x1 ∈ L) (gx1 : tag x1 = 35) (pf1 : fld Fo x0 28 = .ref x1) (mx2 : x2 ∈ L) (gx2 : tag x2 = 36) (pf2 : fld Fo x0 29 = .ref x2) (hx3 : 0 ≤ x3.toInt ∧ x3.toInt ≤ 31) (pf3 : fld Fo x0 12 = .int x3) (hrel : MSR Fo x1 x2) : TMv l yX13_names cX13_names 5 { frames := 0, cells := 0, slots := 0, locals := 0 } G ttC tag L Fo [.ref p0, .long p1, .int p2, .int p3] (fun F1 => ((∀ b j : Nat, (tag b ≠ 44 ∨ j ≠ 12) → fld F1 b j = fld Fo b j) ∧ (∀ b j : Nat, tag b ≠ 34 → tag b ≠ 35 → tag b ≠ 36 → elm F1 b j = elm Fo b j)) ∧ (MSR F1 x1 x2) ∧ (∃ z : Int32, fld F1 x0 12 = .int z ∧ z.toInt = x3.toInt + 1)) := by
  refine t_bodyv (y := yX13_names) (cd := cX13_names) (mL := 5) (rm := { frames := 0, cells := 0, slots := 0, locals := 0 }) (av := [.ref p0, .long p1, .int p2, .int p3]) (by decide) (Nat.le_of_ble_eq_true rfl) ho ?_
  intro p e s m args below meth c ls A Q hQ X hT hl
  have hx := X.1.1
  have hb := X.1.2.1
  have hl : lv_has ls 5 [(0, .ref p0), (1, .long p1), (3, .int p2), (4, .int p3)] := hl
  obtain ⟨F, hFo⟩ : ∃ F : Nat → va_E, F = Fo := ⟨_, rfl⟩
  rw [← hFo] at hT pf0 pf1 pf2 pf3 hrel
  have hfr : (∀ b j : Nat, (tag b ≠ 44 ∨ j ≠ 12) → fld F b j = fld Fo b j) ∧ (∀ b j : Nat, tag b ≠ 34 → tag b ≠ 35 → tag b ≠ 36 → elm F b j = elm Fo b j) := by
    rw [hFo]
    exact ⟨by intros; rfl, by intros; rfl⟩
  refine lv_aload_n hx hb dX13_names_0 rfl (lv_at hl 0 rfl) ?_
  refine t_get (C := RX13) (T := TX13) (N := 37) X hT m0 g0 rfl rfl 4 (by decide) qw_477 inlX13 rfl dX13_names_1 (fun v11075 hv11075 ov11075 => ?_)
  obtain rfl : v11075 = .ref x0 := hv11075.symm.trans pf0
  refine t_getN (C := RX12) (T := TX12) (N := 31) X hT mx0 gx0 rfl rfl 27 (by decide) (List.mem_of_getElem? (i := 31) rfl) inlX12 rfl dX13_names_4 (fun v11076 hv11076 ov11076 => ?_)
  obtain ⟨b11077, rfl, mb11077, gb11077⟩ := okV_r ov11076
  have gb11077 : tag b11077 = 34 := tg_of gb11077
  refine lv_aload_n hx hb dX13_names_7 rfl (lv_at hl 0 rfl) ?_
  refine t_get (C := RX13) (T := TX13) (N := 37) X hT m0 g0 rfl rfl 4 (by decide) qw_477 inlX13 rfl dX13_names_8 (fun v11078 hv11078 ov11078 => ?_)
  obtain rfl : v11078 = .ref x0 := hv11078.symm.trans pf0
  refine t_getN (C := RX12) (T := TX12) (N := 31) X hT mx0 gx0 rfl rfl 12 (by decide) (List.mem_of_getElem? (i := 16) rfl) inlX12 rfl dX13_names_11 (fun v11079 hv11079 ov11079 => ?_)
  obtain rfl : v11079 = .int x3 := hv11079.symm.trans pf3
  refine lv_lload_n hx hb dX13_names_14 rfl (lv_at hl 1 rfl) ?_
  refine t_lst X hT mb11077 gb11077 rfl (by omega) dX13_names_15 (fun F H locs hT h1v11080 h2v11080 => ?_)
  have pf0 := (h2v11080 _ _).trans pf0
  have pf1 := (h2v11080 _ _).trans pf1
  have pf2 := (h2v11080 _ _).trans pf2
  have pf3 := (h2v11080 _ _).trans pf3
  have hv11076 := (h2v11080 _ _).trans hv11076
  have hfr : (∀ b j : Nat, (tag b ≠ 44 ∨ j ≠ 12) → fld F b j = fld Fo b j) ∧ (∀ b j : Nat, tag b ≠ 34 → tag b ≠ 35 → tag b ≠ 36 → elm F b j = elm Fo b j) := ⟨fun b j n44_12 => (h2v11080 b j).trans (hfr.1 b j n44_12), fun b j a34 a35 a36 => (h1v11080 b j).trans (hfr.2 b j a34 a35 a36)⟩
  have hrel := msr_of (fun j => h1v11080 _ j) (fun j => h1v11080 _ j) hrel
  refine lv_aload_n hx hb dX13_names_16 rfl (lv_at hl 0 rfl) ?_
  refine t_get (C := RX13) (T := TX13) (N := 37) X hT m0 g0 rfl rfl 4 (by decide) qw_477 inlX13 rfl dX13_names_17 (fun v11081 hv11081 ov11081 => ?_)
  obtain rfl : v11081 = .ref x0 := hv11081.symm.trans pf0
  refine t_getN (C := RX12) (T := TX12) (N := 31) X hT mx0 gx0 rfl rfl 28 (by decide) (List.mem_of_getElem? (i := 32) rfl) inlX12 rfl dX13_names_20 (fun v11082 hv11082 ov11082 => ?_)
  obtain rfl : v11082 = .ref x1 := hv11082.symm.trans pf1
  refine lv_aload_n hx hb dX13_names_23 rfl (lv_at hl 0 rfl) ?_
  refine t_get (C := RX13) (T := TX13) (N := 37) X hT m0 g0 rfl rfl 4 (by decide) qw_477 inlX13 rfl dX13_names_24 (fun v11083 hv11083 ov11083 => ?_)
  obtain rfl : v11083 = .ref x0 := hv11083.symm.trans pf0
  refine t_getN (C := RX12) (T := TX12) (N := 31) X hT mx0 gx0 rfl rfl 12 (by decide) (List.mem_of_getElem? (i := 16) rfl) inlX12 rfl dX13_names_27 (fun v11084 hv11084 ov11084 => ?_)
  obtain rfl : v11084 = .int x3 := hv11084.symm.trans pf3
  refine lv_iload_n hx hb dX13_names_30 rfl (lv_at hl 2 rfl) ?_
  refine t_ist X hT mx1 gx1 rfl (by omega) (show (-2147483648) ≤ (p2 : Int32).toInt ∧ (p2 : Int32).toInt ≤ 2147483647 from (rg_all _)) dX13_names_31 (fun F H locs hT v11085 h1v11085 h2v11085 => ?_)
  have pf0 := (h2v11085 _ _).trans pf0
  have pf1 := (h2v11085 _ _).trans pf1
  have pf2 := (h2v11085 _ _).trans pf2
  have pf3 := (h2v11085 _ _).trans pf3
  have hv11076 := (h2v11085 _ _).trans hv11076
  have hfr : (∀ b j : Nat, (tag b ≠ 44 ∨ j ≠ 12) → fld F b j = fld Fo b j) ∧ (∀ b j : Nat, tag b ≠ 34 → tag b ≠ 35 → tag b ≠ 36 → elm F b j = elm Fo b j) := ⟨fun b j n44_12 => (h2v11085 b j).trans (hfr.1 b j n44_12), fun b j a34 a35 a36 => (h1v11085 b j (Or.inl (at_ne gx1 a35))).trans (hfr.2 b j a34 a35 a36)⟩
  have hrel := msr_s hrel h1v11085 (tne gx2 gx1 (by decide))
  refine lv_aload_n hx hb dX13_names_32 rfl (lv_at hl 0 rfl) ?_
  refine t_get (C := RX13) (T := TX13) (N := 37) X hT m0 g0 rfl rfl 4 (by decide) qw_477 inlX13 rfl dX13_names_33 (fun v11086 hv11086 ov11086 => ?_)
  obtain rfl : v11086 = .ref x0 := hv11086.symm.trans pf0
  refine t_getN (C := RX12) (T := TX12) (N := 31) X hT mx0 gx0 rfl rfl 29 (by decide) (List.mem_of_getElem? (i := 33) rfl) inlX12 rfl dX13_names_36 (fun v11087 hv11087 ov11087 => ?_)
  obtain rfl : v11087 = .ref x2 := hv11087.symm.trans pf2
  refine lv_aload_n hx hb dX13_names_39 rfl (lv_at hl 0 rfl) ?_
  refine t_get (C := RX13) (T := TX13) (N := 37) X hT m0 g0 rfl rfl 4 (by decide) qw_477 inlX13 rfl dX13_names_40 (fun v11088 hv11088 ov11088 => ?_)
  obtain rfl : v11088 = .ref x0 := hv11088.symm.trans pf0
  refine t_getN (C := RX12) (T := TX12) (N := 31) X hT mx0 gx0 rfl rfl 12 (by decide) (List.mem_of_getElem? (i := 16) rfl) inlX12 rfl dX13_names_43 (fun v11089 hv11089 ov11089 => ?_)
  obtain rfl : v11089 = .int x3 := hv11089.symm.trans pf3
  refine lv_iload hx hb dX13_names_46 (lv_at hl 3 rfl) ?_
  refine t_ist X hT mx2 gx2 rfl (by omega) (show (-2147483648) ≤ (p3 : Int32).toInt ∧ (p3 : Int32).toInt ≤ 2147483647 from (rg_all _)) dX13_names_48 (fun F H locs hT v11090 h1v11090 h2v11090 => ?_)
  have pf0 := (h2v11090 _ _).trans pf0
  have pf1 := (h2v11090 _ _).trans pf1
  have pf2 := (h2v11090 _ _).trans pf2
  have pf3 := (h2v11090 _ _).trans pf3
  have hv11076 := (h2v11090 _ _).trans hv11076
  have v11085 := (h1v11090 _ _ (Or.inl (tne gx1 gx2 (by decide)))).trans v11085
  have hfr : (∀ b j : Nat, (tag b ≠ 44 ∨ j ≠ 12) → fld F b j = fld Fo b j) ∧ (∀ b j : Nat, tag b ≠ 34 → tag b ≠ 35 → tag b ≠ 36 → elm F b j = elm Fo b j) := ⟨fun b j n44_12 => (h2v11090 b j).trans (hfr.1 b j n44_12), fun b j a34 a35 a36 => (h1v11090 b j (Or.inl (at_ne gx2 a36))).trans (hfr.2 b j a34 a35 a36)⟩
  have hrel := msr_n hrel v11085 h1v11090 v11090 (tne gx1 gx2 (by decide)) ⟨fun h9 => (by have h8 := congrArg Int32.toInt h9; rw [show ((0 : Int32).toInt = 0) from by decide] at h8; omega), fun h9 => (by have h8 := congrArg Int32.toInt h9; rw [show ((1 : Int32).toInt = 1) from by decide] at h8; omega), fun h9 => ⟨(by omega), (by omega)⟩⟩
  refine lv_aload_n hx hb dX13_names_49 rfl (lv_at hl 0 rfl) ?_
  refine t_get (C := RX13) (T := TX13) (N := 37) X hT m0 g0 rfl rfl 4 (by decide) qw_477 inlX13 rfl dX13_names_50 (fun v11091 hv11091 ov11091 => ?_)
  obtain rfl : v11091 = .ref x0 := hv11091.symm.trans pf0
  refine lv_dup hx hb dX13_names_53 rfl ?_
  refine t_getN (C := RX12) (T := TX12) (N := 31) X hT mx0 gx0 rfl rfl 12 (by decide) (List.mem_of_getElem? (i := 16) rfl) inlX12 rfl dX13_names_54 (fun v11092 hv11092 ov11092 => ?_)
  obtain rfl : v11092 = .int x3 := hv11092.symm.trans pf3
  refine lv_iconst (v := 1) hx hb dX13_names_57 (by decide) ?_
  refine lv_iadd hx hb dX13_names_58 ?_
  refine lv_topi (fun z11093 ez11093 => ?_)
  have hz11093 : z11093.toInt = x3.toInt + 1 := ar_add ez11093 (rfl : x3.toInt = x3.toInt) (by decide : (1 : Int32).toInt = 1) (by omega) (by omega)
  have rz11093 : 1 ≤ z11093.toInt ∧ z11093.toInt ≤ 32 := by omega
  refine t_putN (C := RX12) (T := TX12) (N := 31) (v := .int z11093) X hT mx0 gx0 rfl tyX12 tyX12_ok nmX12 rfl 12 (by decide) (List.mem_of_getElem? (i := 16) rfl) inlX12 rfl (by first | rfl | decide) (by first | rfl | decide) rfl (⟨_, rfl, (show 0 ≤ (z11093 : Int32).toInt from (by omega)), (show (z11093 : Int32).toInt ≤ 32 from (by omega))⟩) dX13_names_59 (fun F H locs hT v11094 h1v11094 h2v11094 => ?_)
  have pf0 := (h1v11094 _ _ (Or.inr (by decide))).trans pf0
  have pf1 := (h1v11094 _ _ (Or.inr (by decide))).trans pf1
  have pf2 := (h1v11094 _ _ (Or.inr (by decide))).trans pf2
  have hv11076 := (h1v11094 _ _ (Or.inr (by decide))).trans hv11076
  have v11085 := (h2v11094 _ _).trans v11085
  have v11090 := (h2v11094 _ _).trans v11090
  have hfr : (∀ b j : Nat, (tag b ≠ 44 ∨ j ≠ 12) → fld F b j = fld Fo b j) ∧ (∀ b j : Nat, tag b ≠ 34 → tag b ≠ 35 → tag b ≠ 36 → elm F b j = elm Fo b j) := ⟨fun b j n44_12 => (h1v11094 b j (fr_ne gx0 n44_12)).trans (hfr.1 b j n44_12), fun b j a34 a35 a36 => (h2v11094 b j).trans (hfr.2 b j a34 a35 a36)⟩
  have hrel := msr_of (fun j => h2v11094 _ j) (fun j => h2v11094 _ j) hrel
  exact t_vret hQ X hT ⟨hfr, hrel, ⟨_, v11094, by omega⟩⟩ (Nat.le_of_ble_eq_true rfl) (Nat.le_of_ble_eq_true rfl) dX13_names_62
set_option maxHeartbeats 4000000 in
set_option maxRecDepth 100000 in
theorem km28_X13_readWall (l : Launch) (G : KG) (tag : Nat → Nat) (L : List Nat) (Fo : Nat → va_E) (ho : okT G ttC tag L Fo) (p0 : Nat) (x0 : Nat) (x1 : Nat) (x2 : Nat) (x3 : Int32) (x4 : Int32) (x5 : Int32) (x6 : Int32) (x7 : Int32) (x8 : Int32) (x9 : Int32) (x10 : Int32) (x11 : Int32) (m0 : p0 ∈ L) (g0 : tag p0 = 46) (mx0 : x0 ∈ L) (gx0 : tag x0 = 44) (pf0 : fld Fo p0 4 = .ref x0) (mx1 : x1 ∈ L) (gx1 : tag x1 = 35) (pf1 : fld Fo x0 28 = .ref x1) (mx2 : x2 ∈ L) (gx2 : tag x2 = 36) (pf2 : fld Fo x0 29 = .ref x2) (hx3 : 0 ≤ x3.toInt ∧ x3.toInt ≤ 5) (pf3 : fld Fo p0 9 = .int x3) (hx4 : 0 ≤ x4.toInt ∧ x4.toInt ≤ 1000) (pf4 : fld Fo p0 8 = .int x4) (hx5 : 0 ≤ x5.toInt ∧ x5.toInt ≤ 7) (pf5 : fld Fo p0 13 = .int x5) (hx6 : 0 ≤ x6.toInt ∧ x6.toInt ≤ 32) (pf6 : fld Fo x0 12 = .int x6) (hx7 : 0 ≤ x7.toInt ∧ x7.toInt ≤ 4) (pf7 : fld Fo x0 7 = .int x7) (hx8 : 0 ≤ x8.toInt ∧ x8.toInt ≤ 4) (pf8 : fld Fo x0 8 = .int x8) (hx9 : 0 ≤ x9.toInt ∧ x9.toInt ≤ 6) (pf9 : fld Fo x0 9 = .int x9) (hx10 : 0 ≤ x10.toInt ∧ x10.toInt ≤ 6) (pf10 : fld Fo x0 10 = .int x10) (hx11 : 0 ≤ x11.toInt ∧ x11.toInt ≤ 12) (pf11 : fld Fo x0 0 = .int x11) (hrel : MSR Fo x1 x2) (hkf : KF x3 x5) (hpl : PLr x6 x7 x8 x9 x10 x11) : TMv l yX13_readWall cX13_readWall 3 { frames := 8, cells := 0, slots := 0, locals := 171 } G ttC tag L Fo [.ref p0] (fun F1 => ((∀ b j : Nat, (tag b ≠ 44 ∨ j ≠ 10) → (tag b ≠ 44 ∨ j ≠ 12) → (tag b ≠ 46 ∨ j ≠ 8) → (tag b ≠ 46 ∨ j ≠ 9) → (tag b ≠ 46 ∨ j ≠ 10) → (tag b ≠ 46 ∨ j ≠ 11) → (tag b ≠ 46 ∨ j ≠ 12) → (tag b ≠ 46 ∨ j ≠ 13) → (tag b ≠ 46 ∨ j ≠ 14) → (tag b ≠ 46 ∨ j ≠ 15) → fld F1 b j = fld Fo b j) ∧ (∀ b j : Nat, tag b ≠ 33 → tag b ≠ 34 → tag b ≠ 35 → tag b ≠ 36 → elm F1 b j = elm Fo b j)) ∧ (MSR F1 x1 x2) ∧ (∃ so sp fa : Int32, fld F1 p0 9 = .int so ∧ fld F1 p0 8 = .int sp ∧ fld F1 p0 13 = .int fa ∧ (0 ≤ so.toInt ∧ so.toInt ≤ 5) ∧ (0 ≤ sp.toInt ∧ sp.toInt ≤ 1000) ∧ (0 ≤ fa.toInt ∧ fa.toInt ≤ 7) ∧ STK x3 so ∧ SPT x3 x4 so sp ∧ KF so fa) ∧ (∃ na st ho he wa wi : Int32, fld F1 x0 12 = .int na ∧ fld F1 x0 7 = .int st ∧ fld F1 x0 8 = .int ho ∧ fld F1 x0 9 = .int he ∧ fld F1 x0 10 = .int wa ∧ fld F1 x0 0 = .int wi ∧ (0 ≤ na.toInt ∧ na.toInt ≤ 32) ∧ (0 ≤ st.toInt ∧ st.toInt ≤ 4) ∧ (0 ≤ ho.toInt ∧ ho.toInt ≤ 4) ∧ (0 ≤ he.toInt ∧ he.toInt ≤ 6) ∧ (0 ≤ wa.toInt ∧ wa.toInt ≤ 6) ∧ (0 ≤ wi.toInt ∧ wi.toInt ≤ 12) ∧ PLr na st ho he wa wi)) := by
  refine t_bodyv (y := yX13_readWall) (cd := cX13_readWall) (mL := 3) (rm := { frames := 8, cells := 0, slots := 0, locals := 171 }) (av := [.ref p0]) (by decide) (Nat.le_of_ble_eq_true rfl) ho ?_
  intro p e s m args below meth c ls A Q hQ X hT hl
  have hx := X.1.1
  have hb := X.1.2.1
  have hl : lv_has ls 3 [(0, .ref p0)] := hl
  obtain ⟨F, hFo⟩ : ∃ F : Nat → va_E, F = Fo := ⟨_, rfl⟩
  rw [← hFo] at hT pf0 pf1 pf2 pf3 pf4 pf5 pf6 pf7 pf8 pf9 pf10 pf11 hrel
  have hfr : (∀ b j : Nat, (tag b ≠ 44 ∨ j ≠ 10) → (tag b ≠ 44 ∨ j ≠ 12) → (tag b ≠ 46 ∨ j ≠ 8) → (tag b ≠ 46 ∨ j ≠ 9) → (tag b ≠ 46 ∨ j ≠ 10) → (tag b ≠ 46 ∨ j ≠ 11) → (tag b ≠ 46 ∨ j ≠ 12) → (tag b ≠ 46 ∨ j ≠ 13) → (tag b ≠ 46 ∨ j ≠ 14) → (tag b ≠ 46 ∨ j ≠ 15) → fld F b j = fld Fo b j) ∧ (∀ b j : Nat, tag b ≠ 33 → tag b ≠ 34 → tag b ≠ 35 → tag b ≠ 36 → elm F b j = elm Fo b j) := by
    rw [hFo]
    exact ⟨by intros; rfl, by intros; rfl⟩
  have hstk : STK x3 x3 := STK.rf
  have hspt : SPT x3 x4 x3 x4 := SPT.rf
  have hpu := hpl
  unfold PLr at hpu
  refine lv_aload_n hx hb dX13_readWall_0 rfl (lv_at hl 0 rfl) ?_
  refine lv_aload_n hx hb dX13_readWall_1 rfl (lv_at hl 0 rfl) ?_
  refine t_get (C := RX13) (T := TX13) (N := 37) X hT m0 g0 rfl rfl 4 (by decide) qw_477 inlX13 rfl dX13_readWall_2 (fun v11434 hv11434 ov11434 => ?_)
  obtain rfl : v11434 = .ref x0 := hv11434.symm.trans pf0
  refine t_getN (C := RX12) (T := TX12) (N := 31) X hT mx0 gx0 rfl rfl 10 (by decide) (List.mem_of_getElem? (i := 14) rfl) inlX12 rfl dX13_readWall_5 (fun v11435 hv11435 ov11435 => ?_)
  obtain rfl : v11435 = .int x10 := hv11435.symm.trans pf10
  refine lv_bipush (v := 6) hx hb dX13_readWall_8 (by decide) ?_
  refine t_cVv (n := 2) (C := RX13) (T := TX13) (N := 37) (As := [.int x10, .int 6]) (rest := []) X hT (km15_X13_begins l G tag L F hT.2.2.2 p0 x10 6 x0 x1 x2 x3 x4 x5 x11 m0 g0 mx0 gx0 pf0 mx1 gx1 pf1 mx2 gx2 pf2 (by omega) pf3 (by omega) pf4 (by omega) pf5 (by omega) pf11 hkf) m0 g0 rfl rfl qw_575 qw_576 qw_577 qw_5 qw_578 ⟨rfl, by decide +kernel, by decide +kernel, by decide +kernel⟩ ⟨Nat.le_of_ble_eq_true rfl, Nat.le_of_ble_eq_true rfl⟩ hl rfl rfl (Nat.le_of_ble_eq_true rfl) dX13_readWall_10 ⟨Nat.le_of_ble_eq_true rfl, Nat.le_of_ble_eq_true rfl⟩ (fun F H locs hT hz11436 => ?_)
  obtain ⟨yz11436, ⟨soz11436, spz11436, faz11436, qsoz11436, qspz11436, qfaz11436, rsoz11436, rspz11436, rfaz11436, stz11436, ptz11436, hkf, pxz11436_0⟩⟩ := hz11436
  have pf0 := (yz11436.1 _ 4 (Or.inr (by decide)) (Or.inr (by decide)) (Or.inr (by decide)) (Or.inr (by decide)) (Or.inr (by decide)) (Or.inr (by decide)) (Or.inr (by decide)) (Or.inr (by decide))).trans pf0
  have pf1 := (yz11436.1 _ 28 (Or.inr (by decide)) (Or.inr (by decide)) (Or.inr (by decide)) (Or.inr (by decide)) (Or.inr (by decide)) (Or.inr (by decide)) (Or.inr (by decide)) (Or.inr (by decide))).trans pf1
  have pf2 := (yz11436.1 _ 29 (Or.inr (by decide)) (Or.inr (by decide)) (Or.inr (by decide)) (Or.inr (by decide)) (Or.inr (by decide)) (Or.inr (by decide)) (Or.inr (by decide)) (Or.inr (by decide))).trans pf2
  have pf6 := (yz11436.1 _ 12 (Or.inr (by decide)) (Or.inr (by decide)) (Or.inr (by decide)) (Or.inr (by decide)) (Or.inl (by rw [gx0]; decide)) (Or.inr (by decide)) (Or.inr (by decide)) (Or.inr (by decide))).trans pf6
  have pf7 := (yz11436.1 _ 7 (Or.inr (by decide)) (Or.inr (by decide)) (Or.inr (by decide)) (Or.inr (by decide)) (Or.inr (by decide)) (Or.inr (by decide)) (Or.inr (by decide)) (Or.inr (by decide))).trans pf7
  have pf8 := (yz11436.1 _ 8 (Or.inl (by rw [gx0]; decide)) (Or.inr (by decide)) (Or.inr (by decide)) (Or.inr (by decide)) (Or.inr (by decide)) (Or.inr (by decide)) (Or.inr (by decide)) (Or.inr (by decide))).trans pf8
  have pf9 := (yz11436.1 _ 9 (Or.inr (by decide)) (Or.inl (by rw [gx0]; decide)) (Or.inr (by decide)) (Or.inr (by decide)) (Or.inr (by decide)) (Or.inr (by decide)) (Or.inr (by decide)) (Or.inr (by decide))).trans pf9
  have pf10 := (yz11436.1 _ 10 (Or.inr (by decide)) (Or.inr (by decide)) (Or.inl (by rw [gx0]; decide)) (Or.inr (by decide)) (Or.inr (by decide)) (Or.inr (by decide)) (Or.inr (by decide)) (Or.inr (by decide))).trans pf10
  have pf11 := (yz11436.1 _ 0 (Or.inr (by decide)) (Or.inr (by decide)) (Or.inr (by decide)) (Or.inr (by decide)) (Or.inr (by decide)) (Or.inr (by decide)) (Or.inr (by decide)) (Or.inr (by decide))).trans pf11
  have hfr : (∀ b j : Nat, (tag b ≠ 44 ∨ j ≠ 10) → (tag b ≠ 44 ∨ j ≠ 12) → (tag b ≠ 46 ∨ j ≠ 8) → (tag b ≠ 46 ∨ j ≠ 9) → (tag b ≠ 46 ∨ j ≠ 10) → (tag b ≠ 46 ∨ j ≠ 11) → (tag b ≠ 46 ∨ j ≠ 12) → (tag b ≠ 46 ∨ j ≠ 13) → (tag b ≠ 46 ∨ j ≠ 14) → (tag b ≠ 46 ∨ j ≠ 15) → fld F b j = fld Fo b j) ∧ (∀ b j : Nat, tag b ≠ 33 → tag b ≠ 34 → tag b ≠ 35 → tag b ≠ 36 → elm F b j = elm Fo b j) := ⟨fun b j n44_10 n44_12 n46_8 n46_9 n46_10 n46_11 n46_12 n46_13 n46_14 n46_15 => (yz11436.1 b j n46_8 n46_9 n46_10 n46_11 n46_12 n46_13 n46_14 n46_15).trans (hfr.1 b j n44_10 n44_12 n46_8 n46_9 n46_10 n46_11 n46_12 n46_13 n46_14 n46_15), fun b j a33 a34 a35 a36 => (yz11436.2 b j ).trans (hfr.2 b j a33 a34 a35 a36)⟩
  have hrel := msr_of (fun j => yz11436.2 _ j ) (fun j => yz11436.2 _ j ) hrel
  have hstk := STK.tr hstk stz11436
  have hspt := SPT.tr hspt ptz11436
  have k11437 : (6 : Int32).toInt = 6 := by decide
  refine lv_aload_n hx hb dX13_readWall_13 rfl (lv_at hl 0 rfl) ?_
  refine t_cVl (n := 0) (C := RX13) (T := TX13) (N := 37) (As := []) (rest := []) X hT (km26_X13_readFresh l G tag L F hT.2.2.2 p0 x0 x1 x2 soz11436 spz11436 faz11436 m0 g0 mx0 gx0 pf0 mx1 gx1 pf1 mx2 gx2 pf2 (by omega) qsoz11436 (by omega) qspz11436 (by omega) qfaz11436 hkf) m0 g0 rfl rfl qw_595 qw_596 qw_597 qw_5 qw_598 ⟨rfl, by decide +kernel, by decide +kernel, by decide +kernel⟩ ⟨Nat.le_of_ble_eq_true rfl, Nat.le_of_ble_eq_true rfl⟩ hl rfl rfl (Nat.le_of_ble_eq_true rfl) dX13_readWall_14 ⟨Nat.le_of_ble_eq_true rfl, Nat.le_of_ble_eq_true rfl⟩ (fun z11438 F H locs hT hz11438 => ?_)
  obtain ⟨yz11438, ⟨soz11438, spz11438, faz11438, qsoz11438, qspz11438, qfaz11438, rsoz11438, rspz11438, rfaz11438, stz11438, ptz11438, hkf⟩⟩ := hz11438
  have pf0 := (yz11438.1 _ 4 (Or.inr (by decide)) (Or.inr (by decide)) (Or.inr (by decide)) (Or.inr (by decide)) (Or.inr (by decide)) (Or.inr (by decide)) (Or.inr (by decide)) (Or.inr (by decide))).trans pf0
  have pf1 := (yz11438.1 _ 28 (Or.inr (by decide)) (Or.inr (by decide)) (Or.inr (by decide)) (Or.inr (by decide)) (Or.inr (by decide)) (Or.inr (by decide)) (Or.inr (by decide)) (Or.inr (by decide))).trans pf1
  have pf2 := (yz11438.1 _ 29 (Or.inr (by decide)) (Or.inr (by decide)) (Or.inr (by decide)) (Or.inr (by decide)) (Or.inr (by decide)) (Or.inr (by decide)) (Or.inr (by decide)) (Or.inr (by decide))).trans pf2
  have pf6 := (yz11438.1 _ 12 (Or.inr (by decide)) (Or.inr (by decide)) (Or.inr (by decide)) (Or.inr (by decide)) (Or.inl (by rw [gx0]; decide)) (Or.inr (by decide)) (Or.inr (by decide)) (Or.inr (by decide))).trans pf6
  have pf7 := (yz11438.1 _ 7 (Or.inr (by decide)) (Or.inr (by decide)) (Or.inr (by decide)) (Or.inr (by decide)) (Or.inr (by decide)) (Or.inr (by decide)) (Or.inr (by decide)) (Or.inr (by decide))).trans pf7
  have pf8 := (yz11438.1 _ 8 (Or.inl (by rw [gx0]; decide)) (Or.inr (by decide)) (Or.inr (by decide)) (Or.inr (by decide)) (Or.inr (by decide)) (Or.inr (by decide)) (Or.inr (by decide)) (Or.inr (by decide))).trans pf8
  have pf9 := (yz11438.1 _ 9 (Or.inr (by decide)) (Or.inl (by rw [gx0]; decide)) (Or.inr (by decide)) (Or.inr (by decide)) (Or.inr (by decide)) (Or.inr (by decide)) (Or.inr (by decide)) (Or.inr (by decide))).trans pf9
  have pf10 := (yz11438.1 _ 10 (Or.inr (by decide)) (Or.inr (by decide)) (Or.inl (by rw [gx0]; decide)) (Or.inr (by decide)) (Or.inr (by decide)) (Or.inr (by decide)) (Or.inr (by decide)) (Or.inr (by decide))).trans pf10
  have pf11 := (yz11438.1 _ 0 (Or.inr (by decide)) (Or.inr (by decide)) (Or.inr (by decide)) (Or.inr (by decide)) (Or.inr (by decide)) (Or.inr (by decide)) (Or.inr (by decide)) (Or.inr (by decide))).trans pf11
  have hfr : (∀ b j : Nat, (tag b ≠ 44 ∨ j ≠ 10) → (tag b ≠ 44 ∨ j ≠ 12) → (tag b ≠ 46 ∨ j ≠ 8) → (tag b ≠ 46 ∨ j ≠ 9) → (tag b ≠ 46 ∨ j ≠ 10) → (tag b ≠ 46 ∨ j ≠ 11) → (tag b ≠ 46 ∨ j ≠ 12) → (tag b ≠ 46 ∨ j ≠ 13) → (tag b ≠ 46 ∨ j ≠ 14) → (tag b ≠ 46 ∨ j ≠ 15) → fld F b j = fld Fo b j) ∧ (∀ b j : Nat, tag b ≠ 33 → tag b ≠ 34 → tag b ≠ 35 → tag b ≠ 36 → elm F b j = elm Fo b j) := ⟨fun b j n44_10 n44_12 n46_8 n46_9 n46_10 n46_11 n46_12 n46_13 n46_14 n46_15 => (yz11438.1 b j n46_8 n46_9 n46_10 n46_11 n46_12 n46_13 n46_14 n46_15).trans (hfr.1 b j n44_10 n44_12 n46_8 n46_9 n46_10 n46_11 n46_12 n46_13 n46_14 n46_15), fun b j a33 a34 a35 a36 => (yz11438.2 b j ).trans (hfr.2 b j a33 a34 a35 a36)⟩
  have hrel := msr_of (fun j => yz11438.2 _ j ) (fun j => yz11438.2 _ j ) hrel
  have hstk := STK.tr hstk stz11438
  have hspt := SPT.tr hspt ptz11438
  refine lv_lstore_n (lv' := [(1, .long z11438), (0, .ref p0)]) hx hb dX13_readWall_17 rfl hl (by decide) rfl (fun ls hl => ?_)
  refine lv_aload_n hx hb dX13_readWall_18 rfl (lv_at hl 1 rfl) ?_
  refine t_get (C := RX13) (T := TX13) (N := 37) X hT m0 g0 rfl rfl 9 (by decide) qw_478 inlX13 rfl dX13_readWall_19 (fun v11439 hv11439 ov11439 => ?_)
  obtain rfl : v11439 = .int soz11438 := hv11439.symm.trans qsoz11438
  refine lv_iconst (v := 5) hx hb dX13_readWall_22 (by decide) ?_
  refine lv_icmp_ne (tgt := 27) hx hb dX13_readWall_23 (by decide) (fun c11440 => ?_) (fun c11440 => ?_)
  · have w11441 := cv_ne (rfl : soz11438.toInt = soz11438.toInt) (by decide : (5 : Int32).toInt = 5) c11440
    have w11442 := (fun h9 => pxz11436_0 (fun e9 => h9 (stz11438 e9))) (by omega)
    have w11443 := (fun h9 => pxz11436_0 (fun e9 => h9 (stz11438 e9))) (by omega)
    refine lv_aload_n hx hb dX13_readWall_27 rfl (lv_at hl 1 rfl) ?_
    refine lv_lload_n hx hb dX13_readWall_28 rfl (lv_at hl 0 rfl) ?_
    refine lv_iconst (v := 3) hx hb dX13_readWall_29 (by decide) ?_
    refine lv_aload_n hx hb dX13_readWall_30 rfl (lv_at hl 1 rfl) ?_
    refine t_get (C := RX13) (T := TX13) (N := 37) X hT m0 g0 rfl rfl 4 (by decide) qw_477 inlX13 rfl dX13_readWall_31 (fun v11444 hv11444 ov11444 => ?_)
    obtain rfl : v11444 = .ref x0 := hv11444.symm.trans pf0
    refine t_getN (C := RX12) (T := TX12) (N := 31) X hT mx0 gx0 rfl rfl 10 (by decide) (List.mem_of_getElem? (i := 14) rfl) inlX12 rfl dX13_readWall_34 (fun v11445 hv11445 ov11445 => ?_)
    obtain rfl : v11445 = .int x10 := hv11445.symm.trans pf10
    have w11446 : 0 ≤ x6.toInt ∧ x6.toInt ≤ 20 := by omega
    refine t_cVv (n := 3) (C := RX13) (T := TX13) (N := 37) (As := [.long z11438, .int 3, .int x10]) (rest := []) X hT (km27_X13_names l G tag L F hT.2.2.2 p0 z11438 3 x10 x0 x1 x2 x6 m0 g0 (by decide) (by omega) mx0 gx0 pf0 mx1 gx1 pf1 mx2 gx2 pf2 (by omega) pf6 hrel) m0 g0 rfl rfl qw_608 qw_609 qw_610 qw_5 qw_611 ⟨rfl, by decide +kernel, by decide +kernel, by decide +kernel⟩ ⟨Nat.le_of_ble_eq_true rfl, Nat.le_of_ble_eq_true rfl⟩ hl rfl rfl (Nat.le_of_ble_eq_true rfl) dX13_readWall_37 ⟨Nat.le_of_ble_eq_true rfl, Nat.le_of_ble_eq_true rfl⟩ (fun F H locs hT hz11447 => ?_)
    obtain ⟨yz11447, hrel, xz11447_0⟩ := hz11447
    have pf0 := (yz11447.1 _ 4 (Or.inr (by decide))).trans pf0
    have pf1 := (yz11447.1 _ 28 (Or.inr (by decide))).trans pf1
    have pf2 := (yz11447.1 _ 29 (Or.inr (by decide))).trans pf2
    have pf7 := (yz11447.1 _ 7 (Or.inr (by decide))).trans pf7
    have pf8 := (yz11447.1 _ 8 (Or.inr (by decide))).trans pf8
    have pf9 := (yz11447.1 _ 9 (Or.inr (by decide))).trans pf9
    have pf10 := (yz11447.1 _ 10 (Or.inr (by decide))).trans pf10
    have pf11 := (yz11447.1 _ 0 (Or.inr (by decide))).trans pf11
    have qsoz11438 := (yz11447.1 _ 9 (Or.inr (by decide))).trans qsoz11438
    have qspz11438 := (yz11447.1 _ 8 (Or.inr (by decide))).trans qspz11438
    have qfaz11438 := (yz11447.1 _ 13 (Or.inr (by decide))).trans qfaz11438
    have hfr : (∀ b j : Nat, (tag b ≠ 44 ∨ j ≠ 10) → (tag b ≠ 44 ∨ j ≠ 12) → (tag b ≠ 46 ∨ j ≠ 8) → (tag b ≠ 46 ∨ j ≠ 9) → (tag b ≠ 46 ∨ j ≠ 10) → (tag b ≠ 46 ∨ j ≠ 11) → (tag b ≠ 46 ∨ j ≠ 12) → (tag b ≠ 46 ∨ j ≠ 13) → (tag b ≠ 46 ∨ j ≠ 14) → (tag b ≠ 46 ∨ j ≠ 15) → fld F b j = fld Fo b j) ∧ (∀ b j : Nat, tag b ≠ 33 → tag b ≠ 34 → tag b ≠ 35 → tag b ≠ 36 → elm F b j = elm Fo b j) := ⟨fun b j n44_10 n44_12 n46_8 n46_9 n46_10 n46_11 n46_12 n46_13 n46_14 n46_15 => (yz11447.1 b j n44_12).trans (hfr.1 b j n44_10 n44_12 n46_8 n46_9 n46_10 n46_11 n46_12 n46_13 n46_14 n46_15), fun b j a33 a34 a35 a36 => (yz11447.2 b j a34 a35 a36).trans (hfr.2 b j a33 a34 a35 a36)⟩
    obtain ⟨z11448, qz11448, hz11448⟩ := xz11447_0
    have rz11448 : 0 ≤ z11448.toInt ∧ z11448.toInt ≤ 32 := by omega
    refine lv_aload_n hx hb dX13_readWall_40 rfl (lv_at hl 1 rfl) ?_
    refine t_get (C := RX13) (T := TX13) (N := 37) X hT m0 g0 rfl rfl 4 (by decide) qw_477 inlX13 rfl dX13_readWall_41 (fun v11449 hv11449 ov11449 => ?_)
    obtain rfl : v11449 = .ref x0 := hv11449.symm.trans pf0
    refine t_getN (C := RX12) (T := TX12) (N := 31) X hT mx0 gx0 rfl rfl 25 (by decide) (List.mem_of_getElem? (i := 29) rfl) inlX12 rfl dX13_readWall_44 (fun v11450 hv11450 ov11450 => ?_)
    obtain ⟨b11451, rfl, mb11451, gb11451⟩ := okV_r ov11450
    have gb11451 : tag b11451 = 33 := tg_of gb11451
    refine lv_aload_n hx hb dX13_readWall_47 rfl (lv_at hl 1 rfl) ?_
    refine t_get (C := RX13) (T := TX13) (N := 37) X hT m0 g0 rfl rfl 4 (by decide) qw_477 inlX13 rfl dX13_readWall_48 (fun v11452 hv11452 ov11452 => ?_)
    obtain rfl : v11452 = .ref x0 := hv11452.symm.trans pf0
    refine t_getN (C := RX12) (T := TX12) (N := 31) X hT mx0 gx0 rfl rfl 10 (by decide) (List.mem_of_getElem? (i := 14) rfl) inlX12 rfl dX13_readWall_51 (fun v11453 hv11453 ov11453 => ?_)
    obtain rfl : v11453 = .int x10 := hv11453.symm.trans pf10
    refine lv_iconst (v := (-1)) hx hb dX13_readWall_54 (by decide) ?_
    refine t_ist X hT mb11451 gb11451 rfl (by omega) (show (-2147483648) ≤ ((-1) : Int32).toInt ∧ ((-1) : Int32).toInt ≤ 2147483647 from (rg_all _)) dX13_readWall_55 (fun F H locs hT v11454 h1v11454 h2v11454 => ?_)
    have pf0 := (h2v11454 _ _).trans pf0
    have pf1 := (h2v11454 _ _).trans pf1
    have pf2 := (h2v11454 _ _).trans pf2
    have pf7 := (h2v11454 _ _).trans pf7
    have pf8 := (h2v11454 _ _).trans pf8
    have pf9 := (h2v11454 _ _).trans pf9
    have pf10 := (h2v11454 _ _).trans pf10
    have pf11 := (h2v11454 _ _).trans pf11
    have qsoz11438 := (h2v11454 _ _).trans qsoz11438
    have qspz11438 := (h2v11454 _ _).trans qspz11438
    have qfaz11438 := (h2v11454 _ _).trans qfaz11438
    have qz11448 := (h2v11454 _ _).trans qz11448
    have hv11450 := (h2v11454 _ _).trans hv11450
    have hfr : (∀ b j : Nat, (tag b ≠ 44 ∨ j ≠ 10) → (tag b ≠ 44 ∨ j ≠ 12) → (tag b ≠ 46 ∨ j ≠ 8) → (tag b ≠ 46 ∨ j ≠ 9) → (tag b ≠ 46 ∨ j ≠ 10) → (tag b ≠ 46 ∨ j ≠ 11) → (tag b ≠ 46 ∨ j ≠ 12) → (tag b ≠ 46 ∨ j ≠ 13) → (tag b ≠ 46 ∨ j ≠ 14) → (tag b ≠ 46 ∨ j ≠ 15) → fld F b j = fld Fo b j) ∧ (∀ b j : Nat, tag b ≠ 33 → tag b ≠ 34 → tag b ≠ 35 → tag b ≠ 36 → elm F b j = elm Fo b j) := ⟨fun b j n44_10 n44_12 n46_8 n46_9 n46_10 n46_11 n46_12 n46_13 n46_14 n46_15 => (h2v11454 b j).trans (hfr.1 b j n44_10 n44_12 n46_8 n46_9 n46_10 n46_11 n46_12 n46_13 n46_14 n46_15), fun b j a33 a34 a35 a36 => (h1v11454 b j (Or.inl (at_ne gb11451 a33))).trans (hfr.2 b j a33 a34 a35 a36)⟩
    have hrel := msr_of (fun j => h1v11454 _ j (Or.inl (tne gx1 gb11451 (by decide)))) (fun j => h1v11454 _ j (Or.inl (tne gx2 gb11451 (by decide)))) hrel
    refine lv_aload_n hx hb dX13_readWall_56 rfl (lv_at hl 1 rfl) ?_
    refine t_get (C := RX13) (T := TX13) (N := 37) X hT m0 g0 rfl rfl 4 (by decide) qw_477 inlX13 rfl dX13_readWall_57 (fun v11455 hv11455 ov11455 => ?_)
    obtain rfl : v11455 = .ref x0 := hv11455.symm.trans pf0
    refine t_getN (C := RX12) (T := TX12) (N := 31) X hT mx0 gx0 rfl rfl 26 (by decide) (List.mem_of_getElem? (i := 30) rfl) inlX12 rfl dX13_readWall_60 (fun v11456 hv11456 ov11456 => ?_)
    obtain ⟨b11457, rfl, mb11457, gb11457⟩ := okV_r ov11456
    have gb11457 : tag b11457 = 33 := tg_of gb11457
    refine lv_aload_n hx hb dX13_readWall_63 rfl (lv_at hl 1 rfl) ?_
    refine t_get (C := RX13) (T := TX13) (N := 37) X hT m0 g0 rfl rfl 4 (by decide) qw_477 inlX13 rfl dX13_readWall_64 (fun v11458 hv11458 ov11458 => ?_)
    obtain rfl : v11458 = .ref x0 := hv11458.symm.trans pf0
    refine t_getN (C := RX12) (T := TX12) (N := 31) X hT mx0 gx0 rfl rfl 10 (by decide) (List.mem_of_getElem? (i := 14) rfl) inlX12 rfl dX13_readWall_67 (fun v11459 hv11459 ov11459 => ?_)
    obtain rfl : v11459 = .int x10 := hv11459.symm.trans pf10
    refine lv_iconst (v := (-1)) hx hb dX13_readWall_70 (by decide) ?_
    refine t_ist X hT mb11457 gb11457 rfl (by omega) (show (-2147483648) ≤ ((-1) : Int32).toInt ∧ ((-1) : Int32).toInt ≤ 2147483647 from (rg_all _)) dX13_readWall_71 (fun F H locs hT v11460 h1v11460 h2v11460 => ?_)
    have pf0 := (h2v11460 _ _).trans pf0
    have pf1 := (h2v11460 _ _).trans pf1
    have pf2 := (h2v11460 _ _).trans pf2
    have pf7 := (h2v11460 _ _).trans pf7
    have pf8 := (h2v11460 _ _).trans pf8
    have pf9 := (h2v11460 _ _).trans pf9
    have pf10 := (h2v11460 _ _).trans pf10
    have pf11 := (h2v11460 _ _).trans pf11
    have qsoz11438 := (h2v11460 _ _).trans qsoz11438
    have qspz11438 := (h2v11460 _ _).trans qspz11438
    have qfaz11438 := (h2v11460 _ _).trans qfaz11438
    have qz11448 := (h2v11460 _ _).trans qz11448
    have hv11450 := (h2v11460 _ _).trans hv11450
    have hv11456 := (h2v11460 _ _).trans hv11456
    have hfr : (∀ b j : Nat, (tag b ≠ 44 ∨ j ≠ 10) → (tag b ≠ 44 ∨ j ≠ 12) → (tag b ≠ 46 ∨ j ≠ 8) → (tag b ≠ 46 ∨ j ≠ 9) → (tag b ≠ 46 ∨ j ≠ 10) → (tag b ≠ 46 ∨ j ≠ 11) → (tag b ≠ 46 ∨ j ≠ 12) → (tag b ≠ 46 ∨ j ≠ 13) → (tag b ≠ 46 ∨ j ≠ 14) → (tag b ≠ 46 ∨ j ≠ 15) → fld F b j = fld Fo b j) ∧ (∀ b j : Nat, tag b ≠ 33 → tag b ≠ 34 → tag b ≠ 35 → tag b ≠ 36 → elm F b j = elm Fo b j) := ⟨fun b j n44_10 n44_12 n46_8 n46_9 n46_10 n46_11 n46_12 n46_13 n46_14 n46_15 => (h2v11460 b j).trans (hfr.1 b j n44_10 n44_12 n46_8 n46_9 n46_10 n46_11 n46_12 n46_13 n46_14 n46_15), fun b j a33 a34 a35 a36 => (h1v11460 b j (Or.inl (at_ne gb11457 a33))).trans (hfr.2 b j a33 a34 a35 a36)⟩
    have hrel := msr_of (fun j => h1v11460 _ j (Or.inl (tne gx1 gb11457 (by decide)))) (fun j => h1v11460 _ j (Or.inl (tne gx2 gb11457 (by decide)))) hrel
    refine lv_aload_n hx hb dX13_readWall_72 rfl (lv_at hl 1 rfl) ?_
    refine t_get (C := RX13) (T := TX13) (N := 37) X hT m0 g0 rfl rfl 4 (by decide) qw_477 inlX13 rfl dX13_readWall_73 (fun v11461 hv11461 ov11461 => ?_)
    obtain rfl : v11461 = .ref x0 := hv11461.symm.trans pf0
    refine lv_dup hx hb dX13_readWall_76 rfl ?_
    refine t_getN (C := RX12) (T := TX12) (N := 31) X hT mx0 gx0 rfl rfl 10 (by decide) (List.mem_of_getElem? (i := 14) rfl) inlX12 rfl dX13_readWall_77 (fun v11462 hv11462 ov11462 => ?_)
    obtain rfl : v11462 = .int x10 := hv11462.symm.trans pf10
    refine lv_iconst (v := 1) hx hb dX13_readWall_80 (by decide) ?_
    refine lv_iadd hx hb dX13_readWall_81 ?_
    refine lv_topi (fun z11463 ez11463 => ?_)
    have hz11463 : z11463.toInt = x10.toInt + 1 := ar_add ez11463 (rfl : x10.toInt = x10.toInt) (by decide : (1 : Int32).toInt = 1) (by omega) (by omega)
    have rz11463 : 1 ≤ z11463.toInt ∧ z11463.toInt ≤ 6 := by omega
    refine t_putN (C := RX12) (T := TX12) (N := 31) (v := .int z11463) X hT mx0 gx0 rfl tyX12 tyX12_ok nmX12 rfl 10 (by decide) (List.mem_of_getElem? (i := 14) rfl) inlX12 rfl (by first | rfl | decide) (by first | rfl | decide) rfl (⟨_, rfl, (show 0 ≤ (z11463 : Int32).toInt from (by omega)), (show (z11463 : Int32).toInt ≤ 6 from (by omega))⟩) dX13_readWall_82 (fun F H locs hT v11464 h1v11464 h2v11464 => ?_)
    have pf0 := (h1v11464 _ _ (Or.inr (by decide))).trans pf0
    have pf1 := (h1v11464 _ _ (Or.inr (by decide))).trans pf1
    have pf2 := (h1v11464 _ _ (Or.inr (by decide))).trans pf2
    have pf7 := (h1v11464 _ _ (Or.inr (by decide))).trans pf7
    have pf8 := (h1v11464 _ _ (Or.inr (by decide))).trans pf8
    have pf9 := (h1v11464 _ _ (Or.inr (by decide))).trans pf9
    have pf11 := (h1v11464 _ _ (Or.inr (by decide))).trans pf11
    have qsoz11438 := (h1v11464 _ _ (Or.inr (by decide))).trans qsoz11438
    have qspz11438 := (h1v11464 _ _ (Or.inr (by decide))).trans qspz11438
    have qfaz11438 := (h1v11464 _ _ (Or.inr (by decide))).trans qfaz11438
    have qz11448 := (h1v11464 _ _ (Or.inr (by decide))).trans qz11448
    have hv11450 := (h1v11464 _ _ (Or.inr (by decide))).trans hv11450
    have hv11456 := (h1v11464 _ _ (Or.inr (by decide))).trans hv11456
    have v11460 := (h2v11464 _ _).trans v11460
    have hfr : (∀ b j : Nat, (tag b ≠ 44 ∨ j ≠ 10) → (tag b ≠ 44 ∨ j ≠ 12) → (tag b ≠ 46 ∨ j ≠ 8) → (tag b ≠ 46 ∨ j ≠ 9) → (tag b ≠ 46 ∨ j ≠ 10) → (tag b ≠ 46 ∨ j ≠ 11) → (tag b ≠ 46 ∨ j ≠ 12) → (tag b ≠ 46 ∨ j ≠ 13) → (tag b ≠ 46 ∨ j ≠ 14) → (tag b ≠ 46 ∨ j ≠ 15) → fld F b j = fld Fo b j) ∧ (∀ b j : Nat, tag b ≠ 33 → tag b ≠ 34 → tag b ≠ 35 → tag b ≠ 36 → elm F b j = elm Fo b j) := ⟨fun b j n44_10 n44_12 n46_8 n46_9 n46_10 n46_11 n46_12 n46_13 n46_14 n46_15 => (h1v11464 b j (fr_ne gx0 n44_10)).trans (hfr.1 b j n44_10 n44_12 n46_8 n46_9 n46_10 n46_11 n46_12 n46_13 n46_14 n46_15), fun b j a33 a34 a35 a36 => (h2v11464 b j).trans (hfr.2 b j a33 a34 a35 a36)⟩
    have hrel := msr_of (fun j => h2v11464 _ j) (fun j => h2v11464 _ j) hrel
    have hpl : PLr z11448 x7 x8 x9 z11463 x11 := ⟨by omega, fun _ => by omega⟩
    exact t_vret hQ X hT ⟨hfr, hrel, ⟨soz11438, spz11438, faz11438, qsoz11438, qspz11438, qfaz11438, (by omega), (by omega), (by omega), hstk, hspt, hkf⟩, ⟨z11448, x7, x8, x9, z11463, x11, qz11448, pf7, pf8, pf9, v11464, pf11, (by omega), (by omega), (by omega), (by omega), (by omega), (by omega), hpl⟩⟩ (Nat.le_of_ble_eq_true rfl) (Nat.le_of_ble_eq_true rfl) dX13_readWall_85
  · have w11465 := cv_eq (rfl : soz11438.toInt = soz11438.toInt) (by decide : (5 : Int32).toInt = 5) c11440
    exact t_vret hQ X hT ⟨hfr, hrel, ⟨soz11438, spz11438, faz11438, qsoz11438, qspz11438, qfaz11438, (by omega), (by omega), (by omega), hstk, hspt, hkf⟩, ⟨x6, x7, x8, x9, x10, x11, pf6, pf7, pf8, pf9, pf10, pf11, (by omega), (by omega), (by omega), (by omega), (by omega), (by omega), hpl⟩⟩ (Nat.le_of_ble_eq_true rfl) (Nat.le_of_ble_eq_true rfl) dX13_readWall_26
set_option maxHeartbeats 4000000 in
set_option maxRecDepth 100000 in
theorem km29_X13_known (l : Launch) (G : KG) (tag : Nat → Nat) (L : List Nat) (Fo : Nat → va_E) (ho : okT G ttC tag L Fo) (p0 : Nat) (p1 : Int32) (x0 : Nat) (x1 : Nat) (x2 : Nat) (x3 : Int32) (x4 : Int32) (x5 : Int32) (m0 : p0 ∈ L) (g0 : tag p0 = 46) (h1 : 1 ≤ p1.toInt ∧ p1.toInt ≤ 1) (mx0 : x0 ∈ L) (gx0 : tag x0 = 44) (pf0 : fld Fo p0 4 = .ref x0) (mx1 : x1 ∈ L) (gx1 : tag x1 = 35) (pf1 : fld Fo x0 28 = .ref x1) (mx2 : x2 ∈ L) (gx2 : tag x2 = 36) (pf2 : fld Fo x0 29 = .ref x2) (hx3 : 0 ≤ x3.toInt ∧ x3.toInt ≤ 5) (pf3 : fld Fo p0 9 = .int x3) (hx4 : 0 ≤ x4.toInt ∧ x4.toInt ≤ 1000) (pf4 : fld Fo p0 8 = .int x4) (hx5 : 0 ≤ x5.toInt ∧ x5.toInt ≤ 7) (pf5 : fld Fo p0 13 = .int x5) (hrel : MSR Fo x1 x2) (hkf : KF x3 x5) : TMi l yX13_known cX13_known 3 (some .int) { frames := 7, cells := 0, slots := 0, locals := 149 } G ttC tag L Fo [.ref p0, .int p1] (fun r F1 => (0 ≤ r.toInt ∧ r.toInt ≤ 3) ∧ ((∀ b j : Nat, (tag b ≠ 46 ∨ j ≠ 9) → (tag b ≠ 46 ∨ j ≠ 13) → (tag b ≠ 46 ∨ j ≠ 14) → fld F1 b j = fld Fo b j) ∧ (∀ b j : Nat, elm F1 b j = elm Fo b j)) ∧ (MSR F1 x1 x2) ∧ (∃ so sp fa : Int32, fld F1 p0 9 = .int so ∧ fld F1 p0 8 = .int sp ∧ fld F1 p0 13 = .int fa ∧ (0 ≤ so.toInt ∧ so.toInt ≤ 5) ∧ (0 ≤ sp.toInt ∧ sp.toInt ≤ 1000) ∧ (0 ≤ fa.toInt ∧ fa.toInt ≤ 7) ∧ STK x3 so ∧ SPT x3 x4 so sp ∧ KF so fa)) := by
  refine t_bodyi (y := yX13_known) (cd := cX13_known) (mL := 3) (rt := (some .int)) (rm := { frames := 7, cells := 0, slots := 0, locals := 149 }) (av := [.ref p0, .int p1]) (by decide) (Nat.le_of_ble_eq_true rfl) ho ?_
  intro p e s m args below meth c ls A Q hQ X hT hl
  have hx := X.1.1
  have hb := X.1.2.1
  have hl : lv_has ls 3 [(0, .ref p0), (1, .int p1)] := hl
  obtain ⟨F, hFo⟩ : ∃ F : Nat → va_E, F = Fo := ⟨_, rfl⟩
  rw [← hFo] at hT pf0 pf1 pf2 pf3 pf4 pf5 hrel
  have hfr : (∀ b j : Nat, (tag b ≠ 46 ∨ j ≠ 9) → (tag b ≠ 46 ∨ j ≠ 13) → (tag b ≠ 46 ∨ j ≠ 14) → fld F b j = fld Fo b j) ∧ (∀ b j : Nat, elm F b j = elm Fo b j) := by
    rw [hFo]
    exact ⟨by intros; rfl, by intros; rfl⟩
  have hstk : STK x3 x3 := STK.rf
  have hspt : SPT x3 x4 x3 x4 := SPT.rf
  refine lv_aload_n hx hb dX13_known_0 rfl (lv_at hl 0 rfl) ?_
  refine t_cVi (n := 0) (C := RX13) (T := TX13) (N := 37) (As := []) (rest := []) X hT (km16_X13_isName l G tag L F hT.2.2.2 p0 x3 m0 g0 (by omega) pf3) m0 g0 rfl rfl qw_599 qw_600 qw_601 qw_5 qw_602 ⟨rfl, by decide +kernel, by decide +kernel, by decide +kernel⟩ ⟨Nat.le_of_ble_eq_true rfl, Nat.le_of_ble_eq_true rfl⟩ hl rfl rfl (Nat.le_of_ble_eq_true rfl) dX13_known_1 ⟨Nat.le_of_ble_eq_true rfl, Nat.le_of_ble_eq_true rfl⟩ (fun z12155 F9 H locs hT hz12155 => ?_)
  obtain ⟨fz12155, hz12155⟩ := hz12155
  rw [fz12155] at hT
  refine lv_if_ne (tgt := 12) hx hb dX13_known_4 (by decide) (fun c12156 => ?_) (fun c12156 => ?_)
  · have w12157 := cv_ne (rfl : z12155.toInt = z12155.toInt) (by decide : (0 : Int32).toInt = 0) c12156
    refine lv_aload_n hx hb dX13_known_12 rfl (lv_at hl 0 rfl) ?_
    refine t_get (C := RX13) (T := TX13) (N := 37) X hT m0 g0 rfl rfl 4 (by decide) qw_477 inlX13 rfl dX13_known_13 (fun v12158 hv12158 ov12158 => ?_)
    obtain rfl : v12158 = .ref x0 := hv12158.symm.trans pf0
    refine lv_aload_n hx hb dX13_known_16 rfl (lv_at hl 0 rfl) ?_
    refine t_get (C := RX13) (T := TX13) (N := 37) X hT m0 g0 rfl rfl 15 (by decide) qw_514 inlX13 rfl dX13_known_17 (fun v12159 hv12159 ov12159 => ?_)
    obtain ⟨z12160, rfl⟩ := ov12159
    refine t_cVi (n := 1) (C := RX12) (T := TX12) (N := 31) (As := [.long z12160]) (rest := []) X hT (km17_X12_find l G tag L F hT.2.2.2 x0 z12160 mx0 gx0) mx0 gx0 rfl rfl qw_603 qw_604 qw_605 qw_476 qw_606 ⟨rfl, by decide +kernel, by decide +kernel, by decide +kernel⟩ ⟨Nat.le_of_ble_eq_true rfl, Nat.le_of_ble_eq_true rfl⟩ hl rfl rfl (Nat.le_of_ble_eq_true rfl) dX13_known_20 ⟨Nat.le_of_ble_eq_true rfl, Nat.le_of_ble_eq_true rfl⟩ (fun z12161 F9 H locs hT hz12161 => ?_)
    obtain ⟨fz12161, hz12161⟩ := hz12161
    rw [fz12161] at hT
    refine lv_istore_n (lv' := [(2, .int z12161), (0, .ref p0), (1, .int p1)]) hx hb dX13_known_23 rfl hl (by decide) rfl (fun ls hl => ?_)
    refine lv_iload_n hx hb dX13_known_24 rfl (lv_at hl 0 rfl) ?_
    refine lv_iconst (v := (-1)) hx hb dX13_known_25 (by decide) ?_
    refine lv_icmp_eq (tgt := 42) hx hb dX13_known_26 (by decide) (fun c12162 => ?_) (fun c12162 => ?_)
    · have w12163 := cv_eq (rfl : z12161.toInt = z12161.toInt) (by decide : ((-1) : Int32).toInt = (-1)) c12162
      refine lv_aload_n hx hb dX13_known_42 rfl (lv_at hl 1 rfl) ?_
      refine lv_iconst (v := 2) hx hb dX13_known_43 (by decide) ?_
      refine t_cVv (n := 1) (C := RX13) (T := TX13) (N := 37) (As := [.int 2]) (rest := []) X hT (km10_X13_flaw l G tag L F hT.2.2.2 p0 2 x0 x1 x2 x3 x4 x5 m0 g0 (by decide) mx0 gx0 pf0 mx1 gx1 pf1 mx2 gx2 pf2 (by omega) pf3 (by omega) pf4 (by omega) pf5 hkf) m0 g0 rfl rfl qw_548 qw_549 qw_550 qw_5 qw_551 ⟨rfl, by decide +kernel, by decide +kernel, by decide +kernel⟩ ⟨Nat.le_of_ble_eq_true rfl, Nat.le_of_ble_eq_true rfl⟩ hl rfl rfl (Nat.le_of_ble_eq_true rfl) dX13_known_44 ⟨Nat.le_of_ble_eq_true rfl, Nat.le_of_ble_eq_true rfl⟩ (fun F H locs hT hz12164 => ?_)
      obtain ⟨yz12164, ⟨soz12164, spz12164, faz12164, qsoz12164, qspz12164, qfaz12164, rsoz12164, rspz12164, rfaz12164, stz12164, ptz12164, hkf, pxz12164_0⟩⟩ := hz12164
      have pf0 := (yz12164.1 _ 4 (Or.inr (by decide)) (Or.inr (by decide)) (Or.inr (by decide))).trans pf0
      have pf1 := (yz12164.1 _ 28 (Or.inr (by decide)) (Or.inr (by decide)) (Or.inr (by decide))).trans pf1
      have pf2 := (yz12164.1 _ 29 (Or.inr (by decide)) (Or.inr (by decide)) (Or.inr (by decide))).trans pf2
      have pf4 := (yz12164.1 _ 8 (Or.inr (by decide)) (Or.inr (by decide)) (Or.inr (by decide))).trans pf4
      have hfr : (∀ b j : Nat, (tag b ≠ 46 ∨ j ≠ 9) → (tag b ≠ 46 ∨ j ≠ 13) → (tag b ≠ 46 ∨ j ≠ 14) → fld F b j = fld Fo b j) ∧ (∀ b j : Nat, elm F b j = elm Fo b j) := ⟨fun b j n46_9 n46_13 n46_14 => (yz12164.1 b j n46_9 n46_13 n46_14).trans (hfr.1 b j n46_9 n46_13 n46_14), fun b j  => (yz12164.2 b j ).trans (hfr.2 b j )⟩
      have hrel := msr_of (fun j => yz12164.2 _ j ) (fun j => yz12164.2 _ j ) hrel
      have hstk := STK.tr hstk stz12164
      have hspt := SPT.tr hspt ptz12164
      refine lv_aload_n hx hb dX13_known_47 rfl (lv_at hl 1 rfl) ?_
      refine t_get (C := RX13) (T := TX13) (N := 37) X hT m0 g0 rfl rfl 9 (by decide) qw_478 inlX13 rfl dX13_known_48 (fun v12165 hv12165 ov12165 => ?_)
      obtain rfl : v12165 = .int soz12164 := hv12165.symm.trans qsoz12164
      refine lv_iconst (v := 5) hx hb dX13_known_51 (by decide) ?_
      refine lv_icmp_ne (tgt := 59) hx hb dX13_known_52 (by decide) (fun c12166 => ?_) (fun c12166 => ?_)
      · have w12167 := cv_ne (rfl : soz12164.toInt = soz12164.toInt) (by decide : (5 : Int32).toInt = 5) c12166
        exfalso
        omega
      · have w12168 := cv_eq (rfl : soz12164.toInt = soz12164.toInt) (by decide : (5 : Int32).toInt = 5) c12166
        refine lv_iconst (v := 0) hx hb dX13_known_55 (by decide) ?_
        refine lv_goto (tgt := 68) hx hb dX13_known_56 (by decide) ?_
        have k12169 : (0 : Int32).toInt = 0 := by decide
        exact t_iret hQ X hT (⟨(by decide), hfr, hrel, ⟨soz12164, spz12164, faz12164, qsoz12164, qspz12164, qfaz12164, (by omega), (by omega), (by omega), hstk, hspt, hkf⟩⟩) (Nat.le_of_ble_eq_true rfl) (Nat.le_of_ble_eq_true rfl) dX13_known_68
    · have w12170 := cv_ne (rfl : z12161.toInt = z12161.toInt) (by decide : ((-1) : Int32).toInt = (-1)) c12162
      refine lv_aload_n hx hb dX13_known_29 rfl (lv_at hl 1 rfl) ?_
      refine t_get (C := RX13) (T := TX13) (N := 37) X hT m0 g0 rfl rfl 4 (by decide) qw_477 inlX13 rfl dX13_known_30 (fun v12171 hv12171 ov12171 => ?_)
      obtain rfl : v12171 = .ref x0 := hv12171.symm.trans pf0
      refine t_getN (C := RX12) (T := TX12) (N := 31) X hT mx0 gx0 rfl rfl 28 (by decide) (List.mem_of_getElem? (i := 32) rfl) inlX12 rfl dX13_known_33 (fun v12172 hv12172 ov12172 => ?_)
      obtain rfl : v12172 = .ref x1 := hv12172.symm.trans pf1
      refine lv_iload_n hx hb dX13_known_36 rfl (lv_at hl 0 rfl) ?_
      refine t_ild X hT mx1 gx1 rfl (by omega) dX13_known_37 (fun z12173 vz12173 rz12173 => ?_)
      have rz12173 : (-2147483648) ≤ z12173.toInt ∧ z12173.toInt ≤ 2147483647 := rz12173
      refine lv_iload_n hx hb dX13_known_38 rfl (lv_at hl 2 rfl) ?_
      refine lv_icmp_eq (tgt := 47) hx hb dX13_known_39 (by decide) (fun c12174 => ?_) (fun c12174 => ?_)
      · have w12175 := cv_eq (rfl : z12173.toInt = z12173.toInt) (rfl : p1.toInt = p1.toInt) c12174
        refine lv_aload_n hx hb dX13_known_47 rfl (lv_at hl 1 rfl) ?_
        refine t_get (C := RX13) (T := TX13) (N := 37) X hT m0 g0 rfl rfl 9 (by decide) qw_478 inlX13 rfl dX13_known_48 (fun v12176 hv12176 ov12176 => ?_)
        obtain rfl : v12176 = .int x3 := hv12176.symm.trans pf3
        refine lv_iconst (v := 5) hx hb dX13_known_51 (by decide) ?_
        refine lv_icmp_ne (tgt := 59) hx hb dX13_known_52 (by decide) (fun c12177 => ?_) (fun c12177 => ?_)
        · have w12178 := cv_ne (rfl : x3.toInt = x3.toInt) (by decide : (5 : Int32).toInt = 5) c12177
          refine lv_aload_n hx hb dX13_known_59 rfl (lv_at hl 1 rfl) ?_
          refine t_get (C := RX13) (T := TX13) (N := 37) X hT m0 g0 rfl rfl 4 (by decide) qw_477 inlX13 rfl dX13_known_60 (fun v12179 hv12179 ov12179 => ?_)
          obtain rfl : v12179 = .ref x0 := hv12179.symm.trans pf0
          refine t_getN (C := RX12) (T := TX12) (N := 31) X hT mx0 gx0 rfl rfl 29 (by decide) (List.mem_of_getElem? (i := 33) rfl) inlX12 rfl dX13_known_63 (fun v12180 hv12180 ov12180 => ?_)
          obtain rfl : v12180 = .ref x2 := hv12180.symm.trans pf2
          refine lv_iload_n hx hb dX13_known_66 rfl (lv_at hl 0 rfl) ?_
          refine t_ild X hT mx2 gx2 rfl (by omega) dX13_known_67 (fun z12181 vz12181 rz12181 => ?_)
          have rz12181 : (-2147483648) ≤ z12181.toInt ∧ z12181.toInt ≤ 2147483647 := rz12181
          have rz12181 := msr_1 hrel vz12173 vz12181 (by omega)
          exact t_iret hQ X hT (⟨(by omega), hfr, hrel, ⟨x3, x4, x5, pf3, pf4, pf5, (by omega), (by omega), (by omega), hstk, hspt, hkf⟩⟩) (Nat.le_of_ble_eq_true rfl) (Nat.le_of_ble_eq_true rfl) dX13_known_68
        · have w12182 := cv_eq (rfl : x3.toInt = x3.toInt) (by decide : (5 : Int32).toInt = 5) c12177
          refine lv_iconst (v := 0) hx hb dX13_known_55 (by decide) ?_
          refine lv_goto (tgt := 68) hx hb dX13_known_56 (by decide) ?_
          have k12183 : (0 : Int32).toInt = 0 := by decide
          exact t_iret hQ X hT (⟨(by decide), hfr, hrel, ⟨x3, x4, x5, pf3, pf4, pf5, (by omega), (by omega), (by omega), hstk, hspt, hkf⟩⟩) (Nat.le_of_ble_eq_true rfl) (Nat.le_of_ble_eq_true rfl) dX13_known_68
      · have w12184 := cv_ne (rfl : z12173.toInt = z12173.toInt) (rfl : p1.toInt = p1.toInt) c12174
        refine lv_aload_n hx hb dX13_known_42 rfl (lv_at hl 1 rfl) ?_
        refine lv_iconst (v := 2) hx hb dX13_known_43 (by decide) ?_
        refine t_cVv (n := 1) (C := RX13) (T := TX13) (N := 37) (As := [.int 2]) (rest := []) X hT (km10_X13_flaw l G tag L F hT.2.2.2 p0 2 x0 x1 x2 x3 x4 x5 m0 g0 (by decide) mx0 gx0 pf0 mx1 gx1 pf1 mx2 gx2 pf2 (by omega) pf3 (by omega) pf4 (by omega) pf5 hkf) m0 g0 rfl rfl qw_548 qw_549 qw_550 qw_5 qw_551 ⟨rfl, by decide +kernel, by decide +kernel, by decide +kernel⟩ ⟨Nat.le_of_ble_eq_true rfl, Nat.le_of_ble_eq_true rfl⟩ hl rfl rfl (Nat.le_of_ble_eq_true rfl) dX13_known_44 ⟨Nat.le_of_ble_eq_true rfl, Nat.le_of_ble_eq_true rfl⟩ (fun F H locs hT hz12185 => ?_)
        obtain ⟨yz12185, ⟨soz12185, spz12185, faz12185, qsoz12185, qspz12185, qfaz12185, rsoz12185, rspz12185, rfaz12185, stz12185, ptz12185, hkf, pxz12185_0⟩⟩ := hz12185
        have pf0 := (yz12185.1 _ 4 (Or.inr (by decide)) (Or.inr (by decide)) (Or.inr (by decide))).trans pf0
        have pf1 := (yz12185.1 _ 28 (Or.inr (by decide)) (Or.inr (by decide)) (Or.inr (by decide))).trans pf1
        have pf2 := (yz12185.1 _ 29 (Or.inr (by decide)) (Or.inr (by decide)) (Or.inr (by decide))).trans pf2
        have pf4 := (yz12185.1 _ 8 (Or.inr (by decide)) (Or.inr (by decide)) (Or.inr (by decide))).trans pf4
        have vz12173 := (yz12185.2 _ _ ).trans vz12173
        have hfr : (∀ b j : Nat, (tag b ≠ 46 ∨ j ≠ 9) → (tag b ≠ 46 ∨ j ≠ 13) → (tag b ≠ 46 ∨ j ≠ 14) → fld F b j = fld Fo b j) ∧ (∀ b j : Nat, elm F b j = elm Fo b j) := ⟨fun b j n46_9 n46_13 n46_14 => (yz12185.1 b j n46_9 n46_13 n46_14).trans (hfr.1 b j n46_9 n46_13 n46_14), fun b j  => (yz12185.2 b j ).trans (hfr.2 b j )⟩
        have hrel := msr_of (fun j => yz12185.2 _ j ) (fun j => yz12185.2 _ j ) hrel
        have hstk := STK.tr hstk stz12185
        have hspt := SPT.tr hspt ptz12185
        refine lv_aload_n hx hb dX13_known_47 rfl (lv_at hl 1 rfl) ?_
        refine t_get (C := RX13) (T := TX13) (N := 37) X hT m0 g0 rfl rfl 9 (by decide) qw_478 inlX13 rfl dX13_known_48 (fun v12186 hv12186 ov12186 => ?_)
        obtain rfl : v12186 = .int soz12185 := hv12186.symm.trans qsoz12185
        refine lv_iconst (v := 5) hx hb dX13_known_51 (by decide) ?_
        refine lv_icmp_ne (tgt := 59) hx hb dX13_known_52 (by decide) (fun c12187 => ?_) (fun c12187 => ?_)
        · have w12188 := cv_ne (rfl : soz12185.toInt = soz12185.toInt) (by decide : (5 : Int32).toInt = 5) c12187
          exfalso
          omega
        · have w12189 := cv_eq (rfl : soz12185.toInt = soz12185.toInt) (by decide : (5 : Int32).toInt = 5) c12187
          refine lv_iconst (v := 0) hx hb dX13_known_55 (by decide) ?_
          refine lv_goto (tgt := 68) hx hb dX13_known_56 (by decide) ?_
          have k12190 : (0 : Int32).toInt = 0 := by decide
          exact t_iret hQ X hT (⟨(by decide), hfr, hrel, ⟨soz12185, spz12185, faz12185, qsoz12185, qspz12185, qfaz12185, (by omega), (by omega), (by omega), hstk, hspt, hkf⟩⟩) (Nat.le_of_ble_eq_true rfl) (Nat.le_of_ble_eq_true rfl) dX13_known_68
  · have w12191 := cv_eq (rfl : z12155.toInt = z12155.toInt) (by decide : (0 : Int32).toInt = 0) c12156
    refine lv_aload_n hx hb dX13_known_7 rfl (lv_at hl 0 rfl) ?_
    refine lv_iconst (v := 1) hx hb dX13_known_8 (by decide) ?_
    refine t_cVv (n := 1) (C := RX13) (T := TX13) (N := 37) (As := [.int 1]) (rest := []) X hT (km10_X13_flaw l G tag L F hT.2.2.2 p0 1 x0 x1 x2 x3 x4 x5 m0 g0 (by decide) mx0 gx0 pf0 mx1 gx1 pf1 mx2 gx2 pf2 (by omega) pf3 (by omega) pf4 (by omega) pf5 hkf) m0 g0 rfl rfl qw_548 qw_549 qw_550 qw_5 qw_551 ⟨rfl, by decide +kernel, by decide +kernel, by decide +kernel⟩ ⟨Nat.le_of_ble_eq_true rfl, Nat.le_of_ble_eq_true rfl⟩ hl rfl rfl (Nat.le_of_ble_eq_true rfl) dX13_known_9 ⟨Nat.le_of_ble_eq_true rfl, Nat.le_of_ble_eq_true rfl⟩ (fun F H locs hT hz12192 => ?_)
    obtain ⟨yz12192, ⟨soz12192, spz12192, faz12192, qsoz12192, qspz12192, qfaz12192, rsoz12192, rspz12192, rfaz12192, stz12192, ptz12192, hkf, pxz12192_0⟩⟩ := hz12192
    have pf0 := (yz12192.1 _ 4 (Or.inr (by decide)) (Or.inr (by decide)) (Or.inr (by decide))).trans pf0
    have pf1 := (yz12192.1 _ 28 (Or.inr (by decide)) (Or.inr (by decide)) (Or.inr (by decide))).trans pf1
    have pf2 := (yz12192.1 _ 29 (Or.inr (by decide)) (Or.inr (by decide)) (Or.inr (by decide))).trans pf2
    have pf4 := (yz12192.1 _ 8 (Or.inr (by decide)) (Or.inr (by decide)) (Or.inr (by decide))).trans pf4
    have hfr : (∀ b j : Nat, (tag b ≠ 46 ∨ j ≠ 9) → (tag b ≠ 46 ∨ j ≠ 13) → (tag b ≠ 46 ∨ j ≠ 14) → fld F b j = fld Fo b j) ∧ (∀ b j : Nat, elm F b j = elm Fo b j) := ⟨fun b j n46_9 n46_13 n46_14 => (yz12192.1 b j n46_9 n46_13 n46_14).trans (hfr.1 b j n46_9 n46_13 n46_14), fun b j  => (yz12192.2 b j ).trans (hfr.2 b j )⟩
    have hrel := msr_of (fun j => yz12192.2 _ j ) (fun j => yz12192.2 _ j ) hrel
    have hstk := STK.tr hstk stz12192
    have hspt := SPT.tr hspt ptz12192
    refine lv_aload_n hx hb dX13_known_12 rfl (lv_at hl 0 rfl) ?_
    refine t_get (C := RX13) (T := TX13) (N := 37) X hT m0 g0 rfl rfl 4 (by decide) qw_477 inlX13 rfl dX13_known_13 (fun v12193 hv12193 ov12193 => ?_)
    obtain rfl : v12193 = .ref x0 := hv12193.symm.trans pf0
    refine lv_aload_n hx hb dX13_known_16 rfl (lv_at hl 0 rfl) ?_
    refine t_get (C := RX13) (T := TX13) (N := 37) X hT m0 g0 rfl rfl 15 (by decide) qw_514 inlX13 rfl dX13_known_17 (fun v12194 hv12194 ov12194 => ?_)
    obtain ⟨z12195, rfl⟩ := ov12194
    refine t_cVi (n := 1) (C := RX12) (T := TX12) (N := 31) (As := [.long z12195]) (rest := []) X hT (km17_X12_find l G tag L F hT.2.2.2 x0 z12195 mx0 gx0) mx0 gx0 rfl rfl qw_603 qw_604 qw_605 qw_476 qw_606 ⟨rfl, by decide +kernel, by decide +kernel, by decide +kernel⟩ ⟨Nat.le_of_ble_eq_true rfl, Nat.le_of_ble_eq_true rfl⟩ hl rfl rfl (Nat.le_of_ble_eq_true rfl) dX13_known_20 ⟨Nat.le_of_ble_eq_true rfl, Nat.le_of_ble_eq_true rfl⟩ (fun z12196 F9 H locs hT hz12196 => ?_)
    obtain ⟨fz12196, hz12196⟩ := hz12196
    rw [fz12196] at hT
    refine lv_istore_n (lv' := [(2, .int z12196), (0, .ref p0), (1, .int p1)]) hx hb dX13_known_23 rfl hl (by decide) rfl (fun ls hl => ?_)
    refine lv_iload_n hx hb dX13_known_24 rfl (lv_at hl 0 rfl) ?_
    refine lv_iconst (v := (-1)) hx hb dX13_known_25 (by decide) ?_
    refine lv_icmp_eq (tgt := 42) hx hb dX13_known_26 (by decide) (fun c12197 => ?_) (fun c12197 => ?_)
    · have w12198 := cv_eq (rfl : z12196.toInt = z12196.toInt) (by decide : ((-1) : Int32).toInt = (-1)) c12197
      refine lv_aload_n hx hb dX13_known_42 rfl (lv_at hl 1 rfl) ?_
      refine lv_iconst (v := 2) hx hb dX13_known_43 (by decide) ?_
      refine t_cVv (n := 1) (C := RX13) (T := TX13) (N := 37) (As := [.int 2]) (rest := []) X hT (km10_X13_flaw l G tag L F hT.2.2.2 p0 2 x0 x1 x2 soz12192 spz12192 faz12192 m0 g0 (by decide) mx0 gx0 pf0 mx1 gx1 pf1 mx2 gx2 pf2 (by omega) qsoz12192 (by omega) qspz12192 (by omega) qfaz12192 hkf) m0 g0 rfl rfl qw_548 qw_549 qw_550 qw_5 qw_551 ⟨rfl, by decide +kernel, by decide +kernel, by decide +kernel⟩ ⟨Nat.le_of_ble_eq_true rfl, Nat.le_of_ble_eq_true rfl⟩ hl rfl rfl (Nat.le_of_ble_eq_true rfl) dX13_known_44 ⟨Nat.le_of_ble_eq_true rfl, Nat.le_of_ble_eq_true rfl⟩ (fun F H locs hT hz12199 => ?_)
      obtain ⟨yz12199, ⟨soz12199, spz12199, faz12199, qsoz12199, qspz12199, qfaz12199, rsoz12199, rspz12199, rfaz12199, stz12199, ptz12199, hkf, pxz12199_0⟩⟩ := hz12199
      have pf0 := (yz12199.1 _ 4 (Or.inr (by decide)) (Or.inr (by decide)) (Or.inr (by decide))).trans pf0
      have pf1 := (yz12199.1 _ 28 (Or.inr (by decide)) (Or.inr (by decide)) (Or.inr (by decide))).trans pf1
      have pf2 := (yz12199.1 _ 29 (Or.inr (by decide)) (Or.inr (by decide)) (Or.inr (by decide))).trans pf2
      have qspz12192 := (yz12199.1 _ 8 (Or.inr (by decide)) (Or.inr (by decide)) (Or.inr (by decide))).trans qspz12192
      have hfr : (∀ b j : Nat, (tag b ≠ 46 ∨ j ≠ 9) → (tag b ≠ 46 ∨ j ≠ 13) → (tag b ≠ 46 ∨ j ≠ 14) → fld F b j = fld Fo b j) ∧ (∀ b j : Nat, elm F b j = elm Fo b j) := ⟨fun b j n46_9 n46_13 n46_14 => (yz12199.1 b j n46_9 n46_13 n46_14).trans (hfr.1 b j n46_9 n46_13 n46_14), fun b j  => (yz12199.2 b j ).trans (hfr.2 b j )⟩
      have hrel := msr_of (fun j => yz12199.2 _ j ) (fun j => yz12199.2 _ j ) hrel
      have hstk := STK.tr hstk stz12199
      have hspt := SPT.tr hspt ptz12199
      have k5z12199 : soz12199.toInt = 5 := stz12199 (by omega)
      refine lv_aload_n hx hb dX13_known_47 rfl (lv_at hl 1 rfl) ?_
      refine t_get (C := RX13) (T := TX13) (N := 37) X hT m0 g0 rfl rfl 9 (by decide) qw_478 inlX13 rfl dX13_known_48 (fun v12200 hv12200 ov12200 => ?_)
      obtain rfl : v12200 = .int soz12199 := hv12200.symm.trans qsoz12199
      refine lv_iconst (v := 5) hx hb dX13_known_51 (by decide) ?_
      refine lv_icmp_ne (tgt := 59) hx hb dX13_known_52 (by decide) (fun c12201 => ?_) (fun c12201 => ?_)
      · have w12202 := cv_ne (rfl : soz12199.toInt = soz12199.toInt) (by decide : (5 : Int32).toInt = 5) c12201
        exfalso
        omega
      · have w12203 := cv_eq (rfl : soz12199.toInt = soz12199.toInt) (by decide : (5 : Int32).toInt = 5) c12201
        refine lv_iconst (v := 0) hx hb dX13_known_55 (by decide) ?_
        refine lv_goto (tgt := 68) hx hb dX13_known_56 (by decide) ?_
        have k12204 : (0 : Int32).toInt = 0 := by decide
        exact t_iret hQ X hT (⟨(by decide), hfr, hrel, ⟨soz12199, spz12199, faz12199, qsoz12199, qspz12199, qfaz12199, (by omega), (by omega), (by omega), hstk, hspt, hkf⟩⟩) (Nat.le_of_ble_eq_true rfl) (Nat.le_of_ble_eq_true rfl) dX13_known_68
    · have w12205 := cv_ne (rfl : z12196.toInt = z12196.toInt) (by decide : ((-1) : Int32).toInt = (-1)) c12197
      refine lv_aload_n hx hb dX13_known_29 rfl (lv_at hl 1 rfl) ?_
      refine t_get (C := RX13) (T := TX13) (N := 37) X hT m0 g0 rfl rfl 4 (by decide) qw_477 inlX13 rfl dX13_known_30 (fun v12206 hv12206 ov12206 => ?_)
      obtain rfl : v12206 = .ref x0 := hv12206.symm.trans pf0
      refine t_getN (C := RX12) (T := TX12) (N := 31) X hT mx0 gx0 rfl rfl 28 (by decide) (List.mem_of_getElem? (i := 32) rfl) inlX12 rfl dX13_known_33 (fun v12207 hv12207 ov12207 => ?_)
      obtain rfl : v12207 = .ref x1 := hv12207.symm.trans pf1
      refine lv_iload_n hx hb dX13_known_36 rfl (lv_at hl 0 rfl) ?_
      refine t_ild X hT mx1 gx1 rfl (by omega) dX13_known_37 (fun z12208 vz12208 rz12208 => ?_)
      have rz12208 : (-2147483648) ≤ z12208.toInt ∧ z12208.toInt ≤ 2147483647 := rz12208
      refine lv_iload_n hx hb dX13_known_38 rfl (lv_at hl 2 rfl) ?_
      refine lv_icmp_eq (tgt := 47) hx hb dX13_known_39 (by decide) (fun c12209 => ?_) (fun c12209 => ?_)
      · have w12210 := cv_eq (rfl : z12208.toInt = z12208.toInt) (rfl : p1.toInt = p1.toInt) c12209
        refine lv_aload_n hx hb dX13_known_47 rfl (lv_at hl 1 rfl) ?_
        refine t_get (C := RX13) (T := TX13) (N := 37) X hT m0 g0 rfl rfl 9 (by decide) qw_478 inlX13 rfl dX13_known_48 (fun v12211 hv12211 ov12211 => ?_)
        obtain rfl : v12211 = .int soz12192 := hv12211.symm.trans qsoz12192
        refine lv_iconst (v := 5) hx hb dX13_known_51 (by decide) ?_
        refine lv_icmp_ne (tgt := 59) hx hb dX13_known_52 (by decide) (fun c12212 => ?_) (fun c12212 => ?_)
        · have w12213 := cv_ne (rfl : soz12192.toInt = soz12192.toInt) (by decide : (5 : Int32).toInt = 5) c12212
          exfalso
          omega
        · have w12214 := cv_eq (rfl : soz12192.toInt = soz12192.toInt) (by decide : (5 : Int32).toInt = 5) c12212
          refine lv_iconst (v := 0) hx hb dX13_known_55 (by decide) ?_
          refine lv_goto (tgt := 68) hx hb dX13_known_56 (by decide) ?_
          have k12215 : (0 : Int32).toInt = 0 := by decide
          exact t_iret hQ X hT (⟨(by decide), hfr, hrel, ⟨soz12192, spz12192, faz12192, qsoz12192, qspz12192, qfaz12192, (by omega), (by omega), (by omega), hstk, hspt, hkf⟩⟩) (Nat.le_of_ble_eq_true rfl) (Nat.le_of_ble_eq_true rfl) dX13_known_68
      · have w12216 := cv_ne (rfl : z12208.toInt = z12208.toInt) (rfl : p1.toInt = p1.toInt) c12209
        refine lv_aload_n hx hb dX13_known_42 rfl (lv_at hl 1 rfl) ?_
        refine lv_iconst (v := 2) hx hb dX13_known_43 (by decide) ?_
        refine t_cVv (n := 1) (C := RX13) (T := TX13) (N := 37) (As := [.int 2]) (rest := []) X hT (km10_X13_flaw l G tag L F hT.2.2.2 p0 2 x0 x1 x2 soz12192 spz12192 faz12192 m0 g0 (by decide) mx0 gx0 pf0 mx1 gx1 pf1 mx2 gx2 pf2 (by omega) qsoz12192 (by omega) qspz12192 (by omega) qfaz12192 hkf) m0 g0 rfl rfl qw_548 qw_549 qw_550 qw_5 qw_551 ⟨rfl, by decide +kernel, by decide +kernel, by decide +kernel⟩ ⟨Nat.le_of_ble_eq_true rfl, Nat.le_of_ble_eq_true rfl⟩ hl rfl rfl (Nat.le_of_ble_eq_true rfl) dX13_known_44 ⟨Nat.le_of_ble_eq_true rfl, Nat.le_of_ble_eq_true rfl⟩ (fun F H locs hT hz12217 => ?_)
        obtain ⟨yz12217, ⟨soz12217, spz12217, faz12217, qsoz12217, qspz12217, qfaz12217, rsoz12217, rspz12217, rfaz12217, stz12217, ptz12217, hkf, pxz12217_0⟩⟩ := hz12217
        have pf0 := (yz12217.1 _ 4 (Or.inr (by decide)) (Or.inr (by decide)) (Or.inr (by decide))).trans pf0
        have pf1 := (yz12217.1 _ 28 (Or.inr (by decide)) (Or.inr (by decide)) (Or.inr (by decide))).trans pf1
        have pf2 := (yz12217.1 _ 29 (Or.inr (by decide)) (Or.inr (by decide)) (Or.inr (by decide))).trans pf2
        have qspz12192 := (yz12217.1 _ 8 (Or.inr (by decide)) (Or.inr (by decide)) (Or.inr (by decide))).trans qspz12192
        have vz12208 := (yz12217.2 _ _ ).trans vz12208
        have hfr : (∀ b j : Nat, (tag b ≠ 46 ∨ j ≠ 9) → (tag b ≠ 46 ∨ j ≠ 13) → (tag b ≠ 46 ∨ j ≠ 14) → fld F b j = fld Fo b j) ∧ (∀ b j : Nat, elm F b j = elm Fo b j) := ⟨fun b j n46_9 n46_13 n46_14 => (yz12217.1 b j n46_9 n46_13 n46_14).trans (hfr.1 b j n46_9 n46_13 n46_14), fun b j  => (yz12217.2 b j ).trans (hfr.2 b j )⟩
        have hrel := msr_of (fun j => yz12217.2 _ j ) (fun j => yz12217.2 _ j ) hrel
        have hstk := STK.tr hstk stz12217
        have hspt := SPT.tr hspt ptz12217
        have k5z12217 : soz12217.toInt = 5 := stz12217 (by omega)
        refine lv_aload_n hx hb dX13_known_47 rfl (lv_at hl 1 rfl) ?_
        refine t_get (C := RX13) (T := TX13) (N := 37) X hT m0 g0 rfl rfl 9 (by decide) qw_478 inlX13 rfl dX13_known_48 (fun v12218 hv12218 ov12218 => ?_)
        obtain rfl : v12218 = .int soz12217 := hv12218.symm.trans qsoz12217
        refine lv_iconst (v := 5) hx hb dX13_known_51 (by decide) ?_
        refine lv_icmp_ne (tgt := 59) hx hb dX13_known_52 (by decide) (fun c12219 => ?_) (fun c12219 => ?_)
        · have w12220 := cv_ne (rfl : soz12217.toInt = soz12217.toInt) (by decide : (5 : Int32).toInt = 5) c12219
          exfalso
          omega
        · have w12221 := cv_eq (rfl : soz12217.toInt = soz12217.toInt) (by decide : (5 : Int32).toInt = 5) c12219
          refine lv_iconst (v := 0) hx hb dX13_known_55 (by decide) ?_
          refine lv_goto (tgt := 68) hx hb dX13_known_56 (by decide) ?_
          have k12222 : (0 : Int32).toInt = 0 := by decide
          exact t_iret hQ X hT (⟨(by decide), hfr, hrel, ⟨soz12217, spz12217, faz12217, qsoz12217, qspz12217, qfaz12217, (by omega), (by omega), (by omega), hstk, hspt, hkf⟩⟩) (Nat.le_of_ble_eq_true rfl) (Nat.le_of_ble_eq_true rfl) dX13_known_68
