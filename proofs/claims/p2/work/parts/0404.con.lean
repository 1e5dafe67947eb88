set_option maxHeartbeats 4000000 in
set_option maxRecDepth 100000 in
theorem km26_X13_readFresh (l : Launch) (G : KG) (tag : Nat → Nat) (L : List Nat) (Fo : Nat → va_E) (ho : okT G ttC tag L Fo) (p0 : Nat) (x0 : Nat) (x1 : Nat) (x2 : Nat) (x3 : Int32) (x4 : Int32) (x5 : Int32) (m0 : p0 ∈ L) (g0 : tag p0 = 46) (mx0 : x0 ∈ L) (gx0 : tag x0 = 44) (pf0 : fld Fo p0 4 = .ref x0) (mx1 : x1 ∈ L) (gx1 : tag x1 = 35) (pf1 : fld Fo x0 28 = .ref x1) (mx2 : x2 ∈ L) (gx2 : tag x2 = 36) (pf2 : fld Fo x0 29 = .ref x2) (hx3 : 0 ≤ x3.toInt ∧ x3.toInt ≤ 5) (pf3 : fld Fo p0 9 = .int x3) (hx4 : 0 ≤ x4.toInt ∧ x4.toInt ≤ 1000) (pf4 : fld Fo p0 8 = .int x4) (hx5 : 0 ≤ x5.toInt ∧ x5.toInt ≤ 7) (pf5 : fld Fo p0 13 = .int x5) (hkf : KF x3 x5) : TMl l yX13_readFresh cX13_readFresh 3 { frames := 7, cells := 0, slots := 0, locals := 149 } G ttC tag L Fo [.ref p0] (fun r F1 => ((∀ b j : Nat, (tag b ≠ 46 ∨ j ≠ 8) → (tag b ≠ 46 ∨ j ≠ 9) → (tag b ≠ 46 ∨ j ≠ 10) → (tag b ≠ 46 ∨ j ≠ 11) → (tag b ≠ 46 ∨ j ≠ 12) → (tag b ≠ 46 ∨ j ≠ 13) → (tag b ≠ 46 ∨ j ≠ 14) → (tag b ≠ 46 ∨ j ≠ 15) → fld F1 b j = fld Fo b j) ∧ (∀ b j : Nat, elm F1 b j = elm Fo b j)) ∧ (∃ so sp fa : Int32, fld F1 p0 9 = .int so ∧ fld F1 p0 8 = .int sp ∧ fld F1 p0 13 = .int fa ∧ (0 ≤ so.toInt ∧ so.toInt ≤ 5) ∧ (0 ≤ sp.toInt ∧ sp.toInt ≤ 1000) ∧ (0 ≤ fa.toInt ∧ fa.toInt ≤ 7) ∧ STK x3 so ∧ SPT x3 x4 so sp ∧ KF so fa)) := by
  refine t_bodyl (y := yX13_readFresh) (cd := cX13_readFresh) (mL := 3) (rm := { frames := 7, cells := 0, slots := 0, locals := 149 }) (av := [.ref p0]) (by decide) (Nat.le_of_ble_eq_true rfl) ho ?_
  intro p e s m args below meth c ls A Q hQ X hT hl
  have hx := X.1.1
  have hb := X.1.2.1
  have hl : lv_has ls 3 [(0, .ref p0)] := hl
  obtain ⟨F, hFo⟩ : ∃ F : Nat → va_E, F = Fo := ⟨_, rfl⟩
  rw [← hFo] at hT pf0 pf1 pf2 pf3 pf4 pf5
  have hfr : (∀ b j : Nat, (tag b ≠ 46 ∨ j ≠ 8) → (tag b ≠ 46 ∨ j ≠ 9) → (tag b ≠ 46 ∨ j ≠ 10) → (tag b ≠ 46 ∨ j ≠ 11) → (tag b ≠ 46 ∨ j ≠ 12) → (tag b ≠ 46 ∨ j ≠ 13) → (tag b ≠ 46 ∨ j ≠ 14) → (tag b ≠ 46 ∨ j ≠ 15) → fld F b j = fld Fo b j) ∧ (∀ b j : Nat, elm F b j = elm Fo b j) := by
    rw [hFo]
    exact ⟨by intros; rfl, by intros; rfl⟩
  have hstk : STK x3 x3 := STK.rf
  have hspt : SPT x3 x4 x3 x4 := SPT.rf
  have K32 : ∀ (z11001 : Int32) (z11002 : Int32) (z11003 : Int32) (F : Nat → va_E) (H : Heap) (locs : List Loc) (ls : Array Slot), (0 ≤ z11001.toInt ∧ z11001.toInt ≤ 5) → (0 ≤ z11002.toInt ∧ z11002.toInt ≤ 1000) → (0 ≤ z11003.toInt ∧ z11003.toInt ≤ 7) → TH G ttC A s tag L F H locs → ((∀ b j : Nat, (tag b ≠ 46 ∨ j ≠ 8) → (tag b ≠ 46 ∨ j ≠ 9) → (tag b ≠ 46 ∨ j ≠ 10) → (tag b ≠ 46 ∨ j ≠ 11) → (tag b ≠ 46 ∨ j ≠ 12) → (tag b ≠ 46 ∨ j ≠ 13) → (tag b ≠ 46 ∨ j ≠ 14) → (tag b ≠ 46 ∨ j ≠ 15) → fld F b j = fld Fo b j) ∧ (∀ b j : Nat, elm F b j = elm Fo b j)) → (fld F p0 4 = .ref x0) → (fld F x0 28 = .ref x1) → (fld F x0 29 = .ref x2) → (fld F p0 9 = .int z11001) → (fld F p0 8 = .int z11002) → (fld F p0 13 = .int z11003) → (STK x3 z11001) → (SPT x3 x4 z11001 z11002) → (KF z11001 z11003) → lv_has ls 3 [(0, .ref p0)] → W p l e { frames := 7, cells := 0, slots := 0, locals := 149 } s m args below meth c H locs 0 0 Q (F0 m 32 ls []) := by
    intro z11001 z11002 z11003 F H locs ls rz11001 rz11002 rz11003 hT hfr pf0 pf1 pf2 qz11001 qz11002 qz11003 hstk hspt hkf hl
    refine lv_aload_n hx hb dX13_readFresh_32 rfl (lv_at hl 0 rfl) ?_
    refine t_get (C := RX13) (T := TX13) (N := 37) X hT m0 g0 rfl rfl 15 (by decide) qw_514 inlX13 rfl dX13_readFresh_33 (fun v11004 hv11004 ov11004 => ?_)
    obtain ⟨z11005, rfl⟩ := ov11004
    refine lv_lstore_n (lv' := [(1, .long z11005), (0, .ref p0)]) hx hb dX13_readFresh_36 rfl hl (by decide) rfl (fun ls hl => ?_)
    refine lv_aload_n hx hb dX13_readFresh_37 rfl (lv_at hl 1 rfl) ?_
    refine t_cVv (n := 0) (C := RX13) (T := TX13) (N := 37) (As := []) (rest := []) X hT (km14_X13_goesOn l G tag L F hT.2.2.2 p0 x0 x1 x2 z11001 z11002 z11003 m0 g0 mx0 gx0 pf0 mx1 gx1 pf1 mx2 gx2 pf2 (by omega) qz11001 (by omega) qz11002 (by omega) qz11003 hkf) m0 g0 rfl rfl qw_508 qw_509 qw_510 qw_5 qw_511 ⟨rfl, by decide +kernel, by decide +kernel, by decide +kernel⟩ ⟨Nat.le_of_ble_eq_true rfl, Nat.le_of_ble_eq_true rfl⟩ hl rfl rfl (Nat.le_of_ble_eq_true rfl) dX13_readFresh_38 ⟨Nat.le_of_ble_eq_true rfl, Nat.le_of_ble_eq_true rfl⟩ (fun F H locs hT hz11006 => ?_)
    obtain ⟨yz11006, ⟨soz11006, spz11006, faz11006, qsoz11006, qspz11006, qfaz11006, rsoz11006, rspz11006, rfaz11006, stz11006, ptz11006, hkf⟩⟩ := hz11006
    have qz11003 := (yz11006.1 _ 13 (Or.inr (by decide)) (Or.inr (by decide)) (Or.inr (by decide)) (Or.inr (by decide)) (Or.inr (by decide)) (Or.inr (by decide))).trans qz11003
    have pf0 := (yz11006.1 _ 4 (Or.inr (by decide)) (Or.inr (by decide)) (Or.inr (by decide)) (Or.inr (by decide)) (Or.inr (by decide)) (Or.inr (by decide))).trans pf0
    have pf1 := (yz11006.1 _ 28 (Or.inr (by decide)) (Or.inr (by decide)) (Or.inr (by decide)) (Or.inr (by decide)) (Or.inr (by decide)) (Or.inr (by decide))).trans pf1
    have pf2 := (yz11006.1 _ 29 (Or.inr (by decide)) (Or.inr (by decide)) (Or.inr (by decide)) (Or.inr (by decide)) (Or.inr (by decide)) (Or.inr (by decide))).trans pf2
    have hfr : (∀ b j : Nat, (tag b ≠ 46 ∨ j ≠ 8) → (tag b ≠ 46 ∨ j ≠ 9) → (tag b ≠ 46 ∨ j ≠ 10) → (tag b ≠ 46 ∨ j ≠ 11) → (tag b ≠ 46 ∨ j ≠ 12) → (tag b ≠ 46 ∨ j ≠ 13) → (tag b ≠ 46 ∨ j ≠ 14) → (tag b ≠ 46 ∨ j ≠ 15) → fld F b j = fld Fo b j) ∧ (∀ b j : Nat, elm F b j = elm Fo b j) := ⟨fun b j n46_8 n46_9 n46_10 n46_11 n46_12 n46_13 n46_14 n46_15 => (yz11006.1 b j n46_8 n46_9 n46_10 n46_11 n46_12 n46_15).trans (hfr.1 b j n46_8 n46_9 n46_10 n46_11 n46_12 n46_13 n46_14 n46_15), fun b j  => (yz11006.2 b j ).trans (hfr.2 b j )⟩
    have hstk := STK.tr hstk stz11006
    have hspt := SPT.tr hspt ptz11006
    refine lv_lload_n hx hb dX13_readFresh_41 rfl (lv_at hl 0 rfl) ?_
    exact t_lret hQ X hT ⟨hfr, ⟨soz11006, spz11006, faz11006, qsoz11006, qspz11006, qfaz11006, (by omega), (by omega), (by omega), hstk, hspt, hkf⟩⟩ (Nat.le_of_ble_eq_true rfl) (Nat.le_of_ble_eq_true rfl) dX13_readFresh_42
  have K12 : ∀ (z11007 : Int32) (z11008 : Int32) (z11009 : Int32) (F : Nat → va_E) (H : Heap) (locs : List Loc) (ls : Array Slot), (0 ≤ z11007.toInt ∧ z11007.toInt ≤ 5) → (0 ≤ z11008.toInt ∧ z11008.toInt ≤ 1000) → (0 ≤ z11009.toInt ∧ z11009.toInt ≤ 7) → TH G ttC A s tag L F H locs → ((∀ b j : Nat, (tag b ≠ 46 ∨ j ≠ 8) → (tag b ≠ 46 ∨ j ≠ 9) → (tag b ≠ 46 ∨ j ≠ 10) → (tag b ≠ 46 ∨ j ≠ 11) → (tag b ≠ 46 ∨ j ≠ 12) → (tag b ≠ 46 ∨ j ≠ 13) → (tag b ≠ 46 ∨ j ≠ 14) → (tag b ≠ 46 ∨ j ≠ 15) → fld F b j = fld Fo b j) ∧ (∀ b j : Nat, elm F b j = elm Fo b j)) → (fld F p0 4 = .ref x0) → (fld F x0 28 = .ref x1) → (fld F x0 29 = .ref x2) → (fld F p0 9 = .int z11007) → (fld F p0 8 = .int z11008) → (fld F p0 13 = .int z11009) → (STK x3 z11007) → (SPT x3 x4 z11007 z11008) → (KF z11007 z11009) → lv_has ls 3 [(0, .ref p0)] → W p l e { frames := 7, cells := 0, slots := 0, locals := 149 } s m args below meth c H locs 0 0 Q (F0 m 12 ls []) := by
    intro z11007 z11008 z11009 F H locs ls rz11007 rz11008 rz11009 hT hfr pf0 pf1 pf2 qz11007 qz11008 qz11009 hstk hspt hkf hl
    refine lv_aload_n hx hb dX13_readFresh_12 rfl (lv_at hl 0 rfl) ?_
    refine t_get (C := RX13) (T := TX13) (N := 37) X hT m0 g0 rfl rfl 4 (by decide) qw_477 inlX13 rfl dX13_readFresh_13 (fun v11010 hv11010 ov11010 => ?_)
    obtain rfl : v11010 = .ref x0 := hv11010.symm.trans pf0
    refine lv_aload_n hx hb dX13_readFresh_16 rfl (lv_at hl 0 rfl) ?_
    refine t_get (C := RX13) (T := TX13) (N := 37) X hT m0 g0 rfl rfl 15 (by decide) qw_514 inlX13 rfl dX13_readFresh_17 (fun v11011 hv11011 ov11011 => ?_)
    obtain ⟨z11012, rfl⟩ := ov11011
    refine t_cVi (n := 1) (C := RX12) (T := TX12) (N := 31) (As := [.long z11012]) (rest := []) X hT (km17_X12_find l G tag L F hT.2.2.2 x0 z11012 mx0 gx0) mx0 gx0 rfl rfl qw_603 qw_604 qw_605 qw_476 qw_606 ⟨rfl, by decide +kernel, by decide +kernel, by decide +kernel⟩ ⟨Nat.le_of_ble_eq_true rfl, Nat.le_of_ble_eq_true rfl⟩ hl rfl rfl (Nat.le_of_ble_eq_true rfl) dX13_readFresh_20 ⟨Nat.le_of_ble_eq_true rfl, Nat.le_of_ble_eq_true rfl⟩ (fun z11013 F9 H locs hT hz11013 => ?_)
    obtain ⟨fz11013, hz11013⟩ := hz11013
    rw [fz11013] at hT
    refine lv_iconst (v := (-1)) hx hb dX13_readFresh_23 (by decide) ?_
    refine lv_icmp_eq (tgt := 32) hx hb dX13_readFresh_24 (by decide) (fun c11014 => ?_) (fun c11014 => ?_)
    · have w11015 := cv_eq (rfl : z11013.toInt = z11013.toInt) (by decide : ((-1) : Int32).toInt = (-1)) c11014
      exact K32 z11007 z11008 z11009 _ _ _ _ (by omega) (by omega) (by omega) hT hfr pf0 pf1 pf2 qz11007 qz11008 qz11009 hstk hspt hkf (lv_sub hl [0] rfl)
    · have w11016 := cv_ne (rfl : z11013.toInt = z11013.toInt) (by decide : ((-1) : Int32).toInt = (-1)) c11014
      refine lv_aload_n hx hb dX13_readFresh_27 rfl (lv_at hl 0 rfl) ?_
      refine lv_iconst (v := 3) hx hb dX13_readFresh_28 (by decide) ?_
      refine t_cVv (n := 1) (C := RX13) (T := TX13) (N := 37) (As := [.int 3]) (rest := []) X hT (km10_X13_flaw l G tag L F hT.2.2.2 p0 3 x0 x1 x2 z11007 z11008 z11009 m0 g0 (by decide) mx0 gx0 pf0 mx1 gx1 pf1 mx2 gx2 pf2 (by omega) qz11007 (by omega) qz11008 (by omega) qz11009 hkf) m0 g0 rfl rfl qw_548 qw_549 qw_550 qw_5 qw_551 ⟨rfl, by decide +kernel, by decide +kernel, by decide +kernel⟩ ⟨Nat.le_of_ble_eq_true rfl, Nat.le_of_ble_eq_true rfl⟩ hl rfl rfl (Nat.le_of_ble_eq_true rfl) dX13_readFresh_29 ⟨Nat.le_of_ble_eq_true rfl, Nat.le_of_ble_eq_true rfl⟩ (fun F H locs hT hz11017 => ?_)
      obtain ⟨yz11017, ⟨soz11017, spz11017, faz11017, qsoz11017, qspz11017, qfaz11017, rsoz11017, rspz11017, rfaz11017, stz11017, ptz11017, hkf, pxz11017_0⟩⟩ := hz11017
      have qz11008 := (yz11017.1 _ 8 (Or.inr (by decide)) (Or.inr (by decide)) (Or.inr (by decide))).trans qz11008
      have pf0 := (yz11017.1 _ 4 (Or.inr (by decide)) (Or.inr (by decide)) (Or.inr (by decide))).trans pf0
      have pf1 := (yz11017.1 _ 28 (Or.inr (by decide)) (Or.inr (by decide)) (Or.inr (by decide))).trans pf1
      have pf2 := (yz11017.1 _ 29 (Or.inr (by decide)) (Or.inr (by decide)) (Or.inr (by decide))).trans pf2
      have hfr : (∀ b j : Nat, (tag b ≠ 46 ∨ j ≠ 8) → (tag b ≠ 46 ∨ j ≠ 9) → (tag b ≠ 46 ∨ j ≠ 10) → (tag b ≠ 46 ∨ j ≠ 11) → (tag b ≠ 46 ∨ j ≠ 12) → (tag b ≠ 46 ∨ j ≠ 13) → (tag b ≠ 46 ∨ j ≠ 14) → (tag b ≠ 46 ∨ j ≠ 15) → fld F b j = fld Fo b j) ∧ (∀ b j : Nat, elm F b j = elm Fo b j) := ⟨fun b j n46_8 n46_9 n46_10 n46_11 n46_12 n46_13 n46_14 n46_15 => (yz11017.1 b j n46_9 n46_13 n46_14).trans (hfr.1 b j n46_8 n46_9 n46_10 n46_11 n46_12 n46_13 n46_14 n46_15), fun b j  => (yz11017.2 b j ).trans (hfr.2 b j )⟩
      have hstk := STK.tr hstk stz11017
      have hspt := SPT.tr hspt ptz11017
      exact K32 soz11017 spz11017 faz11017 _ _ _ _ (by omega) (by omega) (by omega) hT hfr pf0 pf1 pf2 qsoz11017 qspz11017 qfaz11017 hstk hspt hkf (lv_sub hl [0] rfl)
  refine lv_aload_n hx hb dX13_readFresh_0 rfl (lv_at hl 0 rfl) ?_
  refine t_cVi (n := 0) (C := RX13) (T := TX13) (N := 37) (As := []) (rest := []) X hT (km16_X13_isName l G tag L F hT.2.2.2 p0 x3 m0 g0 (by omega) pf3) m0 g0 rfl rfl qw_599 qw_600 qw_601 qw_5 qw_602 ⟨rfl, by decide +kernel, by decide +kernel, by decide +kernel⟩ ⟨Nat.le_of_ble_eq_true rfl, Nat.le_of_ble_eq_true rfl⟩ hl rfl rfl (Nat.le_of_ble_eq_true rfl) dX13_readFresh_1 ⟨Nat.le_of_ble_eq_true rfl, Nat.le_of_ble_eq_true rfl⟩ (fun z11018 F9 H locs hT hz11018 => ?_)
  obtain ⟨fz11018, hz11018⟩ := hz11018
  rw [fz11018] at hT
  refine lv_if_ne (tgt := 12) hx hb dX13_readFresh_4 (by decide) (fun c11019 => ?_) (fun c11019 => ?_)
  · have w11020 := cv_ne (rfl : z11018.toInt = z11018.toInt) (by decide : (0 : Int32).toInt = 0) c11019
    exact K12 x3 x4 x5 _ _ _ _ (by omega) (by omega) (by omega) hT hfr pf0 pf1 pf2 pf3 pf4 pf5 hstk hspt hkf (lv_sub hl [0] rfl)
  · have w11021 := cv_eq (rfl : z11018.toInt = z11018.toInt) (by decide : (0 : Int32).toInt = 0) c11019
    refine lv_aload_n hx hb dX13_readFresh_7 rfl (lv_at hl 0 rfl) ?_
    refine lv_iconst (v := 1) hx hb dX13_readFresh_8 (by decide) ?_
    refine t_cVv (n := 1) (C := RX13) (T := TX13) (N := 37) (As := [.int 1]) (rest := []) X hT (km10_X13_flaw l G tag L F hT.2.2.2 p0 1 x0 x1 x2 x3 x4 x5 m0 g0 (by decide) mx0 gx0 pf0 mx1 gx1 pf1 mx2 gx2 pf2 (by omega) pf3 (by omega) pf4 (by omega) pf5 hkf) m0 g0 rfl rfl qw_548 qw_549 qw_550 qw_5 qw_551 ⟨rfl, by decide +kernel, by decide +kernel, by decide +kernel⟩ ⟨Nat.le_of_ble_eq_true rfl, Nat.le_of_ble_eq_true rfl⟩ hl rfl rfl (Nat.le_of_ble_eq_true rfl) dX13_readFresh_9 ⟨Nat.le_of_ble_eq_true rfl, Nat.le_of_ble_eq_true rfl⟩ (fun F H locs hT hz11022 => ?_)
    obtain ⟨yz11022, ⟨soz11022, spz11022, faz11022, qsoz11022, qspz11022, qfaz11022, rsoz11022, rspz11022, rfaz11022, stz11022, ptz11022, hkf, pxz11022_0⟩⟩ := hz11022
    have pf0 := (yz11022.1 _ 4 (Or.inr (by decide)) (Or.inr (by decide)) (Or.inr (by decide))).trans pf0
    have pf1 := (yz11022.1 _ 28 (Or.inr (by decide)) (Or.inr (by decide)) (Or.inr (by decide))).trans pf1
    have pf2 := (yz11022.1 _ 29 (Or.inr (by decide)) (Or.inr (by decide)) (Or.inr (by decide))).trans pf2
    have pf4 := (yz11022.1 _ 8 (Or.inr (by decide)) (Or.inr (by decide)) (Or.inr (by decide))).trans pf4
    have hfr : (∀ b j : Nat, (tag b ≠ 46 ∨ j ≠ 8) → (tag b ≠ 46 ∨ j ≠ 9) → (tag b ≠ 46 ∨ j ≠ 10) → (tag b ≠ 46 ∨ j ≠ 11) → (tag b ≠ 46 ∨ j ≠ 12) → (tag b ≠ 46 ∨ j ≠ 13) → (tag b ≠ 46 ∨ j ≠ 14) → (tag b ≠ 46 ∨ j ≠ 15) → fld F b j = fld Fo b j) ∧ (∀ b j : Nat, elm F b j = elm Fo b j) := ⟨fun b j n46_8 n46_9 n46_10 n46_11 n46_12 n46_13 n46_14 n46_15 => (yz11022.1 b j n46_9 n46_13 n46_14).trans (hfr.1 b j n46_8 n46_9 n46_10 n46_11 n46_12 n46_13 n46_14 n46_15), fun b j  => (yz11022.2 b j ).trans (hfr.2 b j )⟩
    have hstk := STK.tr hstk stz11022
    have hspt := SPT.tr hspt ptz11022
    exact K12 soz11022 spz11022 faz11022 _ _ _ _ (by omega) (by omega) (by omega) hT hfr pf0 pf1 pf2 qsoz11022 qspz11022 qfaz11022 hstk hspt hkf (lv_sub hl [0] rfl)
set_option maxHeartbeats 4000000 in
set_option maxRecDepth 100000 in
theorem km27_X13_names (l : Launch) (G : KG) (tag : Nat → Nat) (L : List Nat) (Fo : Nat → va_E) (ho : okT G ttC tag L Fo) (p0 : Nat) (p1 : Int64) (p2 : Int32) (p3 : Int32) (x0 : Nat) (x1 : Nat) (x2 : Nat) (x3 : Int32) (m0 : p0 ∈ L) (g0 : tag p0 = 46) (h2 : 3 ≤ p2.toInt ∧ p2.toInt ≤ 3) (h3 : 0 ≤ p3.toInt ∧ p3.toInt ≤ 5) (mx0 : x0 ∈ L) (gx0 : tag x0 = 44) (pf0 : fld Fo p0 4 = .ref x0) (mx1 : x1 ∈ L) (gx1 : tag x1 = 35) (pf1 : fld Fo x0 28 = .ref x1) (mx2 : x2 ∈ L) (gx2 : tag x2 = 36) (pf2 : fld Fo x0 29 = .ref x2) (hx3 : 0 ≤ x3.toInt ∧ x3.toInt ≤ 31) (pf3 : fld Fo x0 12 = .int x3) (hrel : MSR Fo x1 x2) : TMv l yX13_names cX13_names 5 { frames := 0, cells := 0, slots := 0, locals := 0 } G ttC tag L Fo [.ref p0, .long p1, .int p2, .int p3] (fun F1 => ((∀ b j : Nat, (tag b ≠ 44 ∨ j ≠ 12) → fld F1 b j = fld Fo b j) ∧ (∀ b j : Nat, tag b ≠ 34 → tag b ≠ 35 → tag b ≠ 36 → elm F1 b j = elm Fo b j)) ∧ (MSR F1 x1 x2) ∧ (∃ z : Int32, fld F1 x0 12 = .int z ∧ z.toInt = x3.toInt + 1)) := by
  refine t_bodyv (y := yX13_names) (cd := cX13_names) (mL := 5) (rm := { frames := 0, cells := 0, slots := 0, locals := 0 }) (av := [.ref p0, .long p1, .int p2, .int p3]) (by decide) (Nat.le_of_ble_eq_true rfl) ho ?_
  intro p e s m args below meth c ls A Q hQ X hT hl
  have hx := X.1.1
  have hb := X.1.2.1
  have hl : lv_has ls 5 [(0, .ref p0), (1, .long p1), (3, .int p2), (4, .int p3)] := hl
  obtain ⟨F, hFo⟩ : ∃ F : Nat → va_E, F = Fo := ⟨_, rfl⟩
  rw [← hFo] at hT pf0 pf1 pf2 pf3 hrel
  have hfr : (∀ b j : Nat, (tag b ≠ 44 ∨ j ≠ 12) → fld F b j = fld Fo b j) ∧ (∀ b j : Nat, tag b ≠ 34 → tag b ≠ 35 → tag b ≠ 36 → elm F b j = elm Fo b j) := by
    rw [hFo]
    exact ⟨by intros; rfl, by intros; rfl⟩
  refine lv_aload_n hx hb dX13_names_0 rfl (lv_at hl 0 rfl) ?_
  refine t_get (C := RX13) (T := TX13) (N := 37) X hT m0 g0 rfl rfl 4 (by decide) qw_477 inlX13 rfl dX13_names_1 (fun v11252 hv11252 ov11252 => ?_)
  obtain rfl : v11252 = .ref x0 := hv11252.symm.trans pf0
  refine t_getN (C := RX12) (T := TX12) (N := 31) X hT mx0 gx0 rfl rfl 27 (by decide) (List.mem_of_getElem? (i := 31) rfl) inlX12 rfl dX13_names_4 (fun v11253 hv11253 ov11253 => ?_)
  obtain ⟨b11254, rfl, mb11254, gb11254⟩ := okV_r ov11253
  have gb11254 : tag b11254 = 34 := tg_of gb11254
  refine lv_aload_n hx hb dX13_names_7 rfl (lv_at hl 0 rfl) ?_
  refine t_get (C := RX13) (T := TX13) (N := 37) X hT m0 g0 rfl rfl 4 (by decide) qw_477 inlX13 rfl dX13_names_8 (fun v11255 hv11255 ov11255 => ?_)
  obtain rfl : v11255 = .ref x0 := hv11255.symm.trans pf0
  refine t_getN (C := RX12) (T := TX12) (N := 31) X hT mx0 gx0 rfl rfl 12 (by decide) (List.mem_of_getElem? (i := 16) rfl) inlX12 rfl dX13_names_11 (fun v11256 hv11256 ov11256 => ?_)
  obtain rfl : v11256 = .int x3 := hv11256.symm.trans pf3
  refine lv_lload_n hx hb dX13_names_14 rfl (lv_at hl 1 rfl) ?_
  refine t_lst X hT mb11254 gb11254 rfl (by omega) dX13_names_15 (fun F H locs hT h1v11257 h2v11257 => ?_)
  have pf0 := (h2v11257 _ _).trans pf0
  have pf1 := (h2v11257 _ _).trans pf1
  have pf2 := (h2v11257 _ _).trans pf2
  have pf3 := (h2v11257 _ _).trans pf3
  have hv11253 := (h2v11257 _ _).trans hv11253
  have hfr : (∀ b j : Nat, (tag b ≠ 44 ∨ j ≠ 12) → fld F b j = fld Fo b j) ∧ (∀ b j : Nat, tag b ≠ 34 → tag b ≠ 35 → tag b ≠ 36 → elm F b j = elm Fo b j) := ⟨fun b j n44_12 => (h2v11257 b j).trans (hfr.1 b j n44_12), fun b j a34 a35 a36 => (h1v11257 b j).trans (hfr.2 b j a34 a35 a36)⟩
  have hrel := msr_of (fun j => h1v11257 _ j) (fun j => h1v11257 _ j) hrel
  refine lv_aload_n hx hb dX13_names_16 rfl (lv_at hl 0 rfl) ?_
  refine t_get (C := RX13) (T := TX13) (N := 37) X hT m0 g0 rfl rfl 4 (by decide) qw_477 inlX13 rfl dX13_names_17 (fun v11258 hv11258 ov11258 => ?_)
  obtain rfl : v11258 = .ref x0 := hv11258.symm.trans pf0
  refine t_getN (C := RX12) (T := TX12) (N := 31) X hT mx0 gx0 rfl rfl 28 (by decide) (List.mem_of_getElem? (i := 32) rfl) inlX12 rfl dX13_names_20 (fun v11259 hv11259 ov11259 => ?_)
  obtain rfl : v11259 = .ref x1 := hv11259.symm.trans pf1
  refine lv_aload_n hx hb dX13_names_23 rfl (lv_at hl 0 rfl) ?_
  refine t_get (C := RX13) (T := TX13) (N := 37) X hT m0 g0 rfl rfl 4 (by decide) qw_477 inlX13 rfl dX13_names_24 (fun v11260 hv11260 ov11260 => ?_)
  obtain rfl : v11260 = .ref x0 := hv11260.symm.trans pf0
  refine t_getN (C := RX12) (T := TX12) (N := 31) X hT mx0 gx0 rfl rfl 12 (by decide) (List.mem_of_getElem? (i := 16) rfl) inlX12 rfl dX13_names_27 (fun v11261 hv11261 ov11261 => ?_)
  obtain rfl : v11261 = .int x3 := hv11261.symm.trans pf3
  refine lv_iload_n hx hb dX13_names_30 rfl (lv_at hl 2 rfl) ?_
  refine t_ist X hT mx1 gx1 rfl (by omega) (show (-2147483648) ≤ (p2 : Int32).toInt ∧ (p2 : Int32).toInt ≤ 2147483647 from (rg_all _)) dX13_names_31 (fun F H locs hT v11262 h1v11262 h2v11262 => ?_)
  have pf0 := (h2v11262 _ _).trans pf0
  have pf1 := (h2v11262 _ _).trans pf1
  have pf2 := (h2v11262 _ _).trans pf2
  have pf3 := (h2v11262 _ _).trans pf3
  have hv11253 := (h2v11262 _ _).trans hv11253
  have hfr : (∀ b j : Nat, (tag b ≠ 44 ∨ j ≠ 12) → fld F b j = fld Fo b j) ∧ (∀ b j : Nat, tag b ≠ 34 → tag b ≠ 35 → tag b ≠ 36 → elm F b j = elm Fo b j) := ⟨fun b j n44_12 => (h2v11262 b j).trans (hfr.1 b j n44_12), fun b j a34 a35 a36 => (h1v11262 b j (Or.inl (at_ne gx1 a35))).trans (hfr.2 b j a34 a35 a36)⟩
  have hrel := msr_s hrel h1v11262 (tne gx2 gx1 (by decide))
  have alv11262 := v11262
  refine lv_aload_n hx hb dX13_names_32 rfl (lv_at hl 0 rfl) ?_
  refine t_get (C := RX13) (T := TX13) (N := 37) X hT m0 g0 rfl rfl 4 (by decide) qw_477 inlX13 rfl dX13_names_33 (fun v11263 hv11263 ov11263 => ?_)
  obtain rfl : v11263 = .ref x0 := hv11263.symm.trans pf0
  refine t_getN (C := RX12) (T := TX12) (N := 31) X hT mx0 gx0 rfl rfl 29 (by decide) (List.mem_of_getElem? (i := 33) rfl) inlX12 rfl dX13_names_36 (fun v11264 hv11264 ov11264 => ?_)
  obtain rfl : v11264 = .ref x2 := hv11264.symm.trans pf2
  refine lv_aload_n hx hb dX13_names_39 rfl (lv_at hl 0 rfl) ?_
  refine t_get (C := RX13) (T := TX13) (N := 37) X hT m0 g0 rfl rfl 4 (by decide) qw_477 inlX13 rfl dX13_names_40 (fun v11265 hv11265 ov11265 => ?_)
  obtain rfl : v11265 = .ref x0 := hv11265.symm.trans pf0
  refine t_getN (C := RX12) (T := TX12) (N := 31) X hT mx0 gx0 rfl rfl 12 (by decide) (List.mem_of_getElem? (i := 16) rfl) inlX12 rfl dX13_names_43 (fun v11266 hv11266 ov11266 => ?_)
  obtain rfl : v11266 = .int x3 := hv11266.symm.trans pf3
  refine lv_iload hx hb dX13_names_46 (lv_at hl 3 rfl) ?_
  refine t_ist X hT mx2 gx2 rfl (by omega) (show (-2147483648) ≤ (p3 : Int32).toInt ∧ (p3 : Int32).toInt ≤ 2147483647 from (rg_all _)) dX13_names_48 (fun F H locs hT v11267 h1v11267 h2v11267 => ?_)
  have pf0 := (h2v11267 _ _).trans pf0
  have pf1 := (h2v11267 _ _).trans pf1
  have pf2 := (h2v11267 _ _).trans pf2
  have pf3 := (h2v11267 _ _).trans pf3
  have hv11253 := (h2v11267 _ _).trans hv11253
  have v11262 := (h1v11267 _ _ (Or.inl (tne gx1 gx2 (by decide)))).trans v11262
  have hfr : (∀ b j : Nat, (tag b ≠ 44 ∨ j ≠ 12) → fld F b j = fld Fo b j) ∧ (∀ b j : Nat, tag b ≠ 34 → tag b ≠ 35 → tag b ≠ 36 → elm F b j = elm Fo b j) := ⟨fun b j n44_12 => (h2v11267 b j).trans (hfr.1 b j n44_12), fun b j a34 a35 a36 => (h1v11267 b j (Or.inl (at_ne gx2 a36))).trans (hfr.2 b j a34 a35 a36)⟩
  have hrel := msr_n hrel alv11262 h1v11267 v11267 (tne gx1 gx2 (by decide)) ⟨fun h9 => (by have h8 := congrArg Int32.toInt h9; rw [show ((0 : Int32).toInt = 0) from by decide] at h8; omega), fun h9 => (by have h8 := congrArg Int32.toInt h9; rw [show ((1 : Int32).toInt = 1) from by decide] at h8; omega), fun h9 => ⟨(by omega), (by omega)⟩⟩
  refine lv_aload_n hx hb dX13_names_49 rfl (lv_at hl 0 rfl) ?_
  refine t_get (C := RX13) (T := TX13) (N := 37) X hT m0 g0 rfl rfl 4 (by decide) qw_477 inlX13 rfl dX13_names_50 (fun v11268 hv11268 ov11268 => ?_)
  obtain rfl : v11268 = .ref x0 := hv11268.symm.trans pf0
  refine lv_dup hx hb dX13_names_53 rfl ?_
  refine t_getN (C := RX12) (T := TX12) (N := 31) X hT mx0 gx0 rfl rfl 12 (by decide) (List.mem_of_getElem? (i := 16) rfl) inlX12 rfl dX13_names_54 (fun v11269 hv11269 ov11269 => ?_)
  obtain rfl : v11269 = .int x3 := hv11269.symm.trans pf3
  refine lv_iconst (v := 1) hx hb dX13_names_57 (by decide) ?_
  refine lv_iadd hx hb dX13_names_58 ?_
  refine lv_topi (fun z11270 ez11270 => ?_)
  have hz11270 : z11270.toInt = x3.toInt + 1 := ar_add ez11270 (rfl : x3.toInt = x3.toInt) (by decide : (1 : Int32).toInt = 1) (by omega) (by omega)
  have rz11270 : 1 ≤ z11270.toInt ∧ z11270.toInt ≤ 32 := by omega
  refine t_putN (C := RX12) (T := TX12) (N := 31) (v := .int z11270) X hT mx0 gx0 rfl tyX12 tyX12_ok nmX12 rfl 12 (by decide) (List.mem_of_getElem? (i := 16) rfl) inlX12 rfl (by first | rfl | decide) (by first | rfl | decide) rfl (⟨_, rfl, (show 0 ≤ (z11270 : Int32).toInt from (by omega)), (show (z11270 : Int32).toInt ≤ 32 from (by omega))⟩) dX13_names_59 (fun F H locs hT v11271 h1v11271 h2v11271 => ?_)
  have pf0 := (h1v11271 _ _ (Or.inr (by decide))).trans pf0
  have pf1 := (h1v11271 _ _ (Or.inr (by decide))).trans pf1
  have pf2 := (h1v11271 _ _ (Or.inr (by decide))).trans pf2
  have hv11253 := (h1v11271 _ _ (Or.inr (by decide))).trans hv11253
  have v11262 := (h2v11271 _ _).trans v11262
  have v11267 := (h2v11271 _ _).trans v11267
  have hfr : (∀ b j : Nat, (tag b ≠ 44 ∨ j ≠ 12) → fld F b j = fld Fo b j) ∧ (∀ b j : Nat, tag b ≠ 34 → tag b ≠ 35 → tag b ≠ 36 → elm F b j = elm Fo b j) := ⟨fun b j n44_12 => (h1v11271 b j (fr_ne gx0 n44_12)).trans (hfr.1 b j n44_12), fun b j a34 a35 a36 => (h2v11271 b j).trans (hfr.2 b j a34 a35 a36)⟩
  have hrel := msr_of (fun j => h2v11271 _ j) (fun j => h2v11271 _ j) hrel
  exact t_vret hQ X hT ⟨hfr, hrel, ⟨_, v11271, by omega⟩⟩ (Nat.le_of_ble_eq_true rfl) (Nat.le_of_ble_eq_true rfl) dX13_names_62
set_option maxHeartbeats 4000000 in
set_option maxRecDepth 100000 in
theorem km28_X13_readWall (l : Launch) (G : KG) (tag : Nat → Nat) (L : List Nat) (Fo : Nat → va_E) (ho : okT G ttC tag L Fo) (p0 : Nat) (x0 : Nat) (x1 : Nat) (x2 : Nat) (x3 : Int32) (x4 : Int32) (x5 : Int32) (x6 : Int32) (x7 : Int32) (x8 : Int32) (x9 : Int32) (x10 : Int32) (x11 : Int32) (m0 : p0 ∈ L) (g0 : tag p0 = 46) (mx0 : x0 ∈ L) (gx0 : tag x0 = 44) (pf0 : fld Fo p0 4 = .ref x0) (mx1 : x1 ∈ L) (gx1 : tag x1 = 35) (pf1 : fld Fo x0 28 = .ref x1) (mx2 : x2 ∈ L) (gx2 : tag x2 = 36) (pf2 : fld Fo x0 29 = .ref x2) (hx3 : 0 ≤ x3.toInt ∧ x3.toInt ≤ 5) (pf3 : fld Fo p0 9 = .int x3) (hx4 : 0 ≤ x4.toInt ∧ x4.toInt ≤ 1000) (pf4 : fld Fo p0 8 = .int x4) (hx5 : 0 ≤ x5.toInt ∧ x5.toInt ≤ 7) (pf5 : fld Fo p0 13 = .int x5) (hx6 : 0 ≤ x6.toInt ∧ x6.toInt ≤ 32) (pf6 : fld Fo x0 12 = .int x6) (hx7 : 0 ≤ x7.toInt ∧ x7.toInt ≤ 4) (pf7 : fld Fo x0 7 = .int x7) (hx8 : 0 ≤ x8.toInt ∧ x8.toInt ≤ 4) (pf8 : fld Fo x0 8 = .int x8) (hx9 : 0 ≤ x9.toInt ∧ x9.toInt ≤ 6) (pf9 : fld Fo x0 9 = .int x9) (hx10 : 0 ≤ x10.toInt ∧ x10.toInt ≤ 6) (pf10 : fld Fo x0 10 = .int x10) (hx11 : 0 ≤ x11.toInt ∧ x11.toInt ≤ 12) (pf11 : fld Fo x0 0 = .int x11) (hrel : MSR Fo x1 x2) (hkf : KF x3 x5) (hpl : PLr x6 x7 x8 x9 x10 x11) : TMv l yX13_readWall cX13_readWall 3 { frames := 8, cells := 0, slots := 0, locals := 171 } G ttC tag L Fo [.ref p0] (fun F1 => ((∀ b j : Nat, (tag b ≠ 44 ∨ j ≠ 10) → (tag b ≠ 44 ∨ j ≠ 12) → (tag b ≠ 46 ∨ j ≠ 8) → (tag b ≠ 46 ∨ j ≠ 9) → (tag b ≠ 46 ∨ j ≠ 10) → (tag b ≠ 46 ∨ j ≠ 11) → (tag b ≠ 46 ∨ j ≠ 12) → (tag b ≠ 46 ∨ j ≠ 13) → (tag b ≠ 46 ∨ j ≠ 14) → (tag b ≠ 46 ∨ j ≠ 15) → fld F1 b j = fld Fo b j) ∧ (∀ b j : Nat, tag b ≠ 33 → tag b ≠ 34 → tag b ≠ 35 → tag b ≠ 36 → elm F1 b j = elm Fo b j)) ∧ (MSR F1 x1 x2) ∧ (∃ so sp fa : Int32, fld F1 p0 9 = .int so ∧ fld F1 p0 8 = .int sp ∧ fld F1 p0 13 = .int fa ∧ (0 ≤ so.toInt ∧ so.toInt ≤ 5) ∧ (0 ≤ sp.toInt ∧ sp.toInt ≤ 1000) ∧ (0 ≤ fa.toInt ∧ fa.toInt ≤ 7) ∧ STK x3 so ∧ SPT x3 x4 so sp ∧ KF so fa) ∧ (∃ na st ho he wa wi : Int32, fld F1 x0 12 = .int na ∧ fld F1 x0 7 = .int st ∧ fld F1 x0 8 = .int ho ∧ fld F1 x0 9 = .int he ∧ fld F1 x0 10 = .int wa ∧ fld F1 x0 0 = .int wi ∧ (0 ≤ na.toInt ∧ na.toInt ≤ 32) ∧ (0 ≤ st.toInt ∧ st.toInt ≤ 4) ∧ (0 ≤ ho.toInt ∧ ho.toInt ≤ 4) ∧ (0 ≤ he.toInt ∧ he.toInt ≤ 6) ∧ (0 ≤ wa.toInt ∧ wa.toInt ≤ 6) ∧ (0 ≤ wi.toInt ∧ wi.toInt ≤ 12) ∧ PLr na st ho he wa wi)) := by
  refine t_bodyv (y := yX13_readWall) (cd := cX13_readWall) (mL := 3) (rm := { frames := 8, cells := 0, slots := 0, locals := 171 }) (av := [.ref p0]) (by decide) (Nat.le_of_ble_eq_true rfl) ho ?_
  intro p e s m args below meth c ls A Q hQ X hT hl
  have hx := X.1.1
  have hb := X.1.2.1
  have hl : lv_has ls 3 [(0, .ref p0)] := hl
  obtain ⟨F, hFo⟩ : ∃ F : Nat → va_E, F = Fo := ⟨_, rfl⟩
  rw [← hFo] at hT pf0 pf1 pf2 pf3 pf4 pf5 pf6 pf7 pf8 pf9 pf10 pf11 hrel
  have hfr : (∀ b j : Nat, (tag b ≠ 44 ∨ j ≠ 10) → (tag b ≠ 44 ∨ j ≠ 12) → (tag b ≠ 46 ∨ j ≠ 8) → (tag b ≠ 46 ∨ j ≠ 9) → (tag b ≠ 46 ∨ j ≠ 10) → (tag b ≠ 46 ∨ j ≠ 11) → (tag b ≠ 46 ∨ j ≠ 12) → (tag b ≠ 46 ∨ j ≠ 13) → (tag b ≠ 46 ∨ j ≠ 14) → (tag b ≠ 46 ∨ j ≠ 15) → fld F b j = fld Fo b j) ∧ (∀ b j : Nat, tag b ≠ 33 → tag b ≠ 34 → tag b ≠ 35 → tag b ≠ 36 → elm F b j = elm Fo b j) := by
    rw [hFo]
    exact ⟨by intros; rfl, by intros; rfl⟩
  have hstk : STK x3 x3 := STK.rf
  have hspt : SPT x3 x4 x3 x4 := SPT.rf
  have hpu := hpl
  unfold PLr at hpu
  refine lv_aload_n hx hb dX13_readWall_0 rfl (lv_at hl 0 rfl) ?_
  refine lv_aload_n hx hb dX13_readWall_1 rfl (lv_at hl 0 rfl) ?_
  refine t_get (C := RX13) (T := TX13) (N := 37) X hT m0 g0 rfl rfl 4 (by decide) qw_477 inlX13 rfl dX13_readWall_2 (fun v11611 hv11611 ov11611 => ?_)
  obtain rfl : v11611 = .ref x0 := hv11611.symm.trans pf0
  refine t_getN (C := RX12) (T := TX12) (N := 31) X hT mx0 gx0 rfl rfl 10 (by decide) (List.mem_of_getElem? (i := 14) rfl) inlX12 rfl dX13_readWall_5 (fun v11612 hv11612 ov11612 => ?_)
  obtain rfl : v11612 = .int x10 := hv11612.symm.trans pf10
  refine lv_bipush (v := 6) hx hb dX13_readWall_8 (by decide) ?_
  refine t_cVv (n := 2) (C := RX13) (T := TX13) (N := 37) (As := [.int x10, .int 6]) (rest := []) X hT (km15_X13_begins l G tag L F hT.2.2.2 p0 x10 6 x0 x1 x2 x3 x4 x5 x11 m0 g0 mx0 gx0 pf0 mx1 gx1 pf1 mx2 gx2 pf2 (by omega) pf3 (by omega) pf4 (by omega) pf5 (by omega) pf11 hkf) m0 g0 rfl rfl qw_575 qw_576 qw_577 qw_5 qw_578 ⟨rfl, by decide +kernel, by decide +kernel, by decide +kernel⟩ ⟨Nat.le_of_ble_eq_true rfl, Nat.le_of_ble_eq_true rfl⟩ hl rfl rfl (Nat.le_of_ble_eq_true rfl) dX13_readWall_10 ⟨Nat.le_of_ble_eq_true rfl, Nat.le_of_ble_eq_true rfl⟩ (fun F H locs hT hz11613 => ?_)
  obtain ⟨yz11613, ⟨soz11613, spz11613, faz11613, qsoz11613, qspz11613, qfaz11613, rsoz11613, rspz11613, rfaz11613, stz11613, ptz11613, hkf, pxz11613_0⟩⟩ := hz11613
  have pf0 := (yz11613.1 _ 4 (Or.inr (by decide)) (Or.inr (by decide)) (Or.inr (by decide)) (Or.inr (by decide)) (Or.inr (by decide)) (Or.inr (by decide)) (Or.inr (by decide)) (Or.inr (by decide))).trans pf0
  have pf1 := (yz11613.1 _ 28 (Or.inr (by decide)) (Or.inr (by decide)) (Or.inr (by decide)) (Or.inr (by decide)) (Or.inr (by decide)) (Or.inr (by decide)) (Or.inr (by decide)) (Or.inr (by decide))).trans pf1
  have pf2 := (yz11613.1 _ 29 (Or.inr (by decide)) (Or.inr (by decide)) (Or.inr (by decide)) (Or.inr (by decide)) (Or.inr (by decide)) (Or.inr (by decide)) (Or.inr (by decide)) (Or.inr (by decide))).trans pf2
  have pf6 := (yz11613.1 _ 12 (Or.inr (by decide)) (Or.inr (by decide)) (Or.inr (by decide)) (Or.inr (by decide)) (Or.inl (by rw [gx0]; decide)) (Or.inr (by decide)) (Or.inr (by decide)) (Or.inr (by decide))).trans pf6
  have pf7 := (yz11613.1 _ 7 (Or.inr (by decide)) (Or.inr (by decide)) (Or.inr (by decide)) (Or.inr (by decide)) (Or.inr (by decide)) (Or.inr (by decide)) (Or.inr (by decide)) (Or.inr (by decide))).trans pf7
  have pf8 := (yz11613.1 _ 8 (Or.inl (by rw [gx0]; decide)) (Or.inr (by decide)) (Or.inr (by decide)) (Or.inr (by decide)) (Or.inr (by decide)) (Or.inr (by decide)) (Or.inr (by decide)) (Or.inr (by decide))).trans pf8
  have pf9 := (yz11613.1 _ 9 (Or.inr (by decide)) (Or.inl (by rw [gx0]; decide)) (Or.inr (by decide)) (Or.inr (by decide)) (Or.inr (by decide)) (Or.inr (by decide)) (Or.inr (by decide)) (Or.inr (by decide))).trans pf9
  have pf10 := (yz11613.1 _ 10 (Or.inr (by decide)) (Or.inr (by decide)) (Or.inl (by rw [gx0]; decide)) (Or.inr (by decide)) (Or.inr (by decide)) (Or.inr (by decide)) (Or.inr (by decide)) (Or.inr (by decide))).trans pf10
  have pf11 := (yz11613.1 _ 0 (Or.inr (by decide)) (Or.inr (by decide)) (Or.inr (by decide)) (Or.inr (by decide)) (Or.inr (by decide)) (Or.inr (by decide)) (Or.inr (by decide)) (Or.inr (by decide))).trans pf11
  have hfr : (∀ b j : Nat, (tag b ≠ 44 ∨ j ≠ 10) → (tag b ≠ 44 ∨ j ≠ 12) → (tag b ≠ 46 ∨ j ≠ 8) → (tag b ≠ 46 ∨ j ≠ 9) → (tag b ≠ 46 ∨ j ≠ 10) → (tag b ≠ 46 ∨ j ≠ 11) → (tag b ≠ 46 ∨ j ≠ 12) → (tag b ≠ 46 ∨ j ≠ 13) → (tag b ≠ 46 ∨ j ≠ 14) → (tag b ≠ 46 ∨ j ≠ 15) → fld F b j = fld Fo b j) ∧ (∀ b j : Nat, tag b ≠ 33 → tag b ≠ 34 → tag b ≠ 35 → tag b ≠ 36 → elm F b j = elm Fo b j) := ⟨fun b j n44_10 n44_12 n46_8 n46_9 n46_10 n46_11 n46_12 n46_13 n46_14 n46_15 => (yz11613.1 b j n46_8 n46_9 n46_10 n46_11 n46_12 n46_13 n46_14 n46_15).trans (hfr.1 b j n44_10 n44_12 n46_8 n46_9 n46_10 n46_11 n46_12 n46_13 n46_14 n46_15), fun b j a33 a34 a35 a36 => (yz11613.2 b j ).trans (hfr.2 b j a33 a34 a35 a36)⟩
  have hrel := msr_of (fun j => yz11613.2 _ j ) (fun j => yz11613.2 _ j ) hrel
  have hstk := STK.tr hstk stz11613
  have hspt := SPT.tr hspt ptz11613
  have k11614 : (6 : Int32).toInt = 6 := by decide
  refine lv_aload_n hx hb dX13_readWall_13 rfl (lv_at hl 0 rfl) ?_
  refine t_cVl (n := 0) (C := RX13) (T := TX13) (N := 37) (As := []) (rest := []) X hT (km26_X13_readFresh l G tag L F hT.2.2.2 p0 x0 x1 x2 soz11613 spz11613 faz11613 m0 g0 mx0 gx0 pf0 mx1 gx1 pf1 mx2 gx2 pf2 (by omega) qsoz11613 (by omega) qspz11613 (by omega) qfaz11613 hkf) m0 g0 rfl rfl qw_595 qw_596 qw_597 qw_5 qw_598 ⟨rfl, by decide +kernel, by decide +kernel, by decide +kernel⟩ ⟨Nat.le_of_ble_eq_true rfl, Nat.le_of_ble_eq_true rfl⟩ hl rfl rfl (Nat.le_of_ble_eq_true rfl) dX13_readWall_14 ⟨Nat.le_of_ble_eq_true rfl, Nat.le_of_ble_eq_true rfl⟩ (fun z11615 F H locs hT hz11615 => ?_)
  obtain ⟨yz11615, ⟨soz11615, spz11615, faz11615, qsoz11615, qspz11615, qfaz11615, rsoz11615, rspz11615, rfaz11615, stz11615, ptz11615, hkf⟩⟩ := hz11615
  have pf0 := (yz11615.1 _ 4 (Or.inr (by decide)) (Or.inr (by decide)) (Or.inr (by decide)) (Or.inr (by decide)) (Or.inr (by decide)) (Or.inr (by decide)) (Or.inr (by decide)) (Or.inr (by decide))).trans pf0
  have pf1 := (yz11615.1 _ 28 (Or.inr (by decide)) (Or.inr (by decide)) (Or.inr (by decide)) (Or.inr (by decide)) (Or.inr (by decide)) (Or.inr (by decide)) (Or.inr (by decide)) (Or.inr (by decide))).trans pf1
  have pf2 := (yz11615.1 _ 29 (Or.inr (by decide)) (Or.inr (by decide)) (Or.inr (by decide)) (Or.inr (by decide)) (Or.inr (by decide)) (Or.inr (by decide)) (Or.inr (by decide)) (Or.inr (by decide))).trans pf2
  have pf6 := (yz11615.1 _ 12 (Or.inr (by decide)) (Or.inr (by decide)) (Or.inr (by decide)) (Or.inr (by decide)) (Or.inl (by rw [gx0]; decide)) (Or.inr (by decide)) (Or.inr (by decide)) (Or.inr (by decide))).trans pf6
  have pf7 := (yz11615.1 _ 7 (Or.inr (by decide)) (Or.inr (by decide)) (Or.inr (by decide)) (Or.inr (by decide)) (Or.inr (by decide)) (Or.inr (by decide)) (Or.inr (by decide)) (Or.inr (by decide))).trans pf7
  have pf8 := (yz11615.1 _ 8 (Or.inl (by rw [gx0]; decide)) (Or.inr (by decide)) (Or.inr (by decide)) (Or.inr (by decide)) (Or.inr (by decide)) (Or.inr (by decide)) (Or.inr (by decide)) (Or.inr (by decide))).trans pf8
  have pf9 := (yz11615.1 _ 9 (Or.inr (by decide)) (Or.inl (by rw [gx0]; decide)) (Or.inr (by decide)) (Or.inr (by decide)) (Or.inr (by decide)) (Or.inr (by decide)) (Or.inr (by decide)) (Or.inr (by decide))).trans pf9
  have pf10 := (yz11615.1 _ 10 (Or.inr (by decide)) (Or.inr (by decide)) (Or.inl (by rw [gx0]; decide)) (Or.inr (by decide)) (Or.inr (by decide)) (Or.inr (by decide)) (Or.inr (by decide)) (Or.inr (by decide))).trans pf10
  have pf11 := (yz11615.1 _ 0 (Or.inr (by decide)) (Or.inr (by decide)) (Or.inr (by decide)) (Or.inr (by decide)) (Or.inr (by decide)) (Or.inr (by decide)) (Or.inr (by decide)) (Or.inr (by decide))).trans pf11
  have hfr : (∀ b j : Nat, (tag b ≠ 44 ∨ j ≠ 10) → (tag b ≠ 44 ∨ j ≠ 12) → (tag b ≠ 46 ∨ j ≠ 8) → (tag b ≠ 46 ∨ j ≠ 9) → (tag b ≠ 46 ∨ j ≠ 10) → (tag b ≠ 46 ∨ j ≠ 11) → (tag b ≠ 46 ∨ j ≠ 12) → (tag b ≠ 46 ∨ j ≠ 13) → (tag b ≠ 46 ∨ j ≠ 14) → (tag b ≠ 46 ∨ j ≠ 15) → fld F b j = fld Fo b j) ∧ (∀ b j : Nat, tag b ≠ 33 → tag b ≠ 34 → tag b ≠ 35 → tag b ≠ 36 → elm F b j = elm Fo b j) := ⟨fun b j n44_10 n44_12 n46_8 n46_9 n46_10 n46_11 n46_12 n46_13 n46_14 n46_15 => (yz11615.1 b j n46_8 n46_9 n46_10 n46_11 n46_12 n46_13 n46_14 n46_15).trans (hfr.1 b j n44_10 n44_12 n46_8 n46_9 n46_10 n46_11 n46_12 n46_13 n46_14 n46_15), fun b j a33 a34 a35 a36 => (yz11615.2 b j ).trans (hfr.2 b j a33 a34 a35 a36)⟩
  have hrel := msr_of (fun j => yz11615.2 _ j ) (fun j => yz11615.2 _ j ) hrel
  have hstk := STK.tr hstk stz11615
  have hspt := SPT.tr hspt ptz11615
  refine lv_lstore_n (lv' := [(1, .long z11615), (0, .ref p0)]) hx hb dX13_readWall_17 rfl hl (by decide) rfl (fun ls hl => ?_)
  refine lv_aload_n hx hb dX13_readWall_18 rfl (lv_at hl 1 rfl) ?_
  refine t_get (C := RX13) (T := TX13) (N := 37) X hT m0 g0 rfl rfl 9 (by decide) qw_478 inlX13 rfl dX13_readWall_19 (fun v11616 hv11616 ov11616 => ?_)
  obtain rfl : v11616 = .int soz11615 := hv11616.symm.trans qsoz11615
  refine lv_iconst (v := 5) hx hb dX13_readWall_22 (by decide) ?_
  refine lv_icmp_ne (tgt := 27) hx hb dX13_readWall_23 (by decide) (fun c11617 => ?_) (fun c11617 => ?_)
  · have w11618 := cv_ne (rfl : soz11615.toInt = soz11615.toInt) (by decide : (5 : Int32).toInt = 5) c11617
    have w11619 := (fun (h9 : soz11615.toInt ≠ 5) => pxz11613_0 (fun e9 => h9 (stz11615 e9))) (by omega)
    have w11620 := (fun (h9 : soz11615.toInt ≠ 5) => pxz11613_0 (fun e9 => h9 (stz11615 e9))) (by omega)
    refine lv_aload_n hx hb dX13_readWall_27 rfl (lv_at hl 1 rfl) ?_
    refine lv_lload_n hx hb dX13_readWall_28 rfl (lv_at hl 0 rfl) ?_
    refine lv_iconst (v := 3) hx hb dX13_readWall_29 (by decide) ?_
    refine lv_aload_n hx hb dX13_readWall_30 rfl (lv_at hl 1 rfl) ?_
    refine t_get (C := RX13) (T := TX13) (N := 37) X hT m0 g0 rfl rfl 4 (by decide) qw_477 inlX13 rfl dX13_readWall_31 (fun v11621 hv11621 ov11621 => ?_)
    obtain rfl : v11621 = .ref x0 := hv11621.symm.trans pf0
    refine t_getN (C := RX12) (T := TX12) (N := 31) X hT mx0 gx0 rfl rfl 10 (by decide) (List.mem_of_getElem? (i := 14) rfl) inlX12 rfl dX13_readWall_34 (fun v11622 hv11622 ov11622 => ?_)
    obtain rfl : v11622 = .int x10 := hv11622.symm.trans pf10
    have w11623 : 0 ≤ x6.toInt ∧ x6.toInt ≤ 20 := by omega
    refine t_cVv (n := 3) (C := RX13) (T := TX13) (N := 37) (As := [.long z11615, .int 3, .int x10]) (rest := []) X hT (km27_X13_names l G tag L F hT.2.2.2 p0 z11615 3 x10 x0 x1 x2 x6 m0 g0 (by decide) (by omega) mx0 gx0 pf0 mx1 gx1 pf1 mx2 gx2 pf2 (by omega) pf6 hrel) m0 g0 rfl rfl qw_608 qw_609 qw_610 qw_5 qw_611 ⟨rfl, by decide +kernel, by decide +kernel, by decide +kernel⟩ ⟨Nat.le_of_ble_eq_true rfl, Nat.le_of_ble_eq_true rfl⟩ hl rfl rfl (Nat.le_of_ble_eq_true rfl) dX13_readWall_37 ⟨Nat.le_of_ble_eq_true rfl, Nat.le_of_ble_eq_true rfl⟩ (fun F H locs hT hz11624 => ?_)
    obtain ⟨yz11624, hrel, xz11624_0⟩ := hz11624
    have pf0 := (yz11624.1 _ 4 (Or.inr (by decide))).trans pf0
    have pf1 := (yz11624.1 _ 28 (Or.inr (by decide))).trans pf1
    have pf2 := (yz11624.1 _ 29 (Or.inr (by decide))).trans pf2
    have pf7 := (yz11624.1 _ 7 (Or.inr (by decide))).trans pf7
    have pf8 := (yz11624.1 _ 8 (Or.inr (by decide))).trans pf8
    have pf9 := (yz11624.1 _ 9 (Or.inr (by decide))).trans pf9
    have pf10 := (yz11624.1 _ 10 (Or.inr (by decide))).trans pf10
    have pf11 := (yz11624.1 _ 0 (Or.inr (by decide))).trans pf11
    have qsoz11615 := (yz11624.1 _ 9 (Or.inr (by decide))).trans qsoz11615
    have qspz11615 := (yz11624.1 _ 8 (Or.inr (by decide))).trans qspz11615
    have qfaz11615 := (yz11624.1 _ 13 (Or.inr (by decide))).trans qfaz11615
    have hfr : (∀ b j : Nat, (tag b ≠ 44 ∨ j ≠ 10) → (tag b ≠ 44 ∨ j ≠ 12) → (tag b ≠ 46 ∨ j ≠ 8) → (tag b ≠ 46 ∨ j ≠ 9) → (tag b ≠ 46 ∨ j ≠ 10) → (tag b ≠ 46 ∨ j ≠ 11) → (tag b ≠ 46 ∨ j ≠ 12) → (tag b ≠ 46 ∨ j ≠ 13) → (tag b ≠ 46 ∨ j ≠ 14) → (tag b ≠ 46 ∨ j ≠ 15) → fld F b j = fld Fo b j) ∧ (∀ b j : Nat, tag b ≠ 33 → tag b ≠ 34 → tag b ≠ 35 → tag b ≠ 36 → elm F b j = elm Fo b j) := ⟨fun b j n44_10 n44_12 n46_8 n46_9 n46_10 n46_11 n46_12 n46_13 n46_14 n46_15 => (yz11624.1 b j n44_12).trans (hfr.1 b j n44_10 n44_12 n46_8 n46_9 n46_10 n46_11 n46_12 n46_13 n46_14 n46_15), fun b j a33 a34 a35 a36 => (yz11624.2 b j a34 a35 a36).trans (hfr.2 b j a33 a34 a35 a36)⟩
    obtain ⟨z11625, qz11625, hz11625⟩ := xz11624_0
    have rz11625 : 0 ≤ z11625.toInt ∧ z11625.toInt ≤ 32 := by omega
    refine lv_aload_n hx hb dX13_readWall_40 rfl (lv_at hl 1 rfl) ?_
    refine t_get (C := RX13) (T := TX13) (N := 37) X hT m0 g0 rfl rfl 4 (by decide) qw_477 inlX13 rfl dX13_readWall_41 (fun v11626 hv11626 ov11626 => ?_)
    obtain rfl : v11626 = .ref x0 := hv11626.symm.trans pf0
    refine t_getN (C := RX12) (T := TX12) (N := 31) X hT mx0 gx0 rfl rfl 25 (by decide) (List.mem_of_getElem? (i := 29) rfl) inlX12 rfl dX13_readWall_44 (fun v11627 hv11627 ov11627 => ?_)
    obtain ⟨b11628, rfl, mb11628, gb11628⟩ := okV_r ov11627
    have gb11628 : tag b11628 = 33 := tg_of gb11628
    refine lv_aload_n hx hb dX13_readWall_47 rfl (lv_at hl 1 rfl) ?_
    refine t_get (C := RX13) (T := TX13) (N := 37) X hT m0 g0 rfl rfl 4 (by decide) qw_477 inlX13 rfl dX13_readWall_48 (fun v11629 hv11629 ov11629 => ?_)
    obtain rfl : v11629 = .ref x0 := hv11629.symm.trans pf0
    refine t_getN (C := RX12) (T := TX12) (N := 31) X hT mx0 gx0 rfl rfl 10 (by decide) (List.mem_of_getElem? (i := 14) rfl) inlX12 rfl dX13_readWall_51 (fun v11630 hv11630 ov11630 => ?_)
    obtain rfl : v11630 = .int x10 := hv11630.symm.trans pf10
    refine lv_iconst (v := (-1)) hx hb dX13_readWall_54 (by decide) ?_
    refine t_ist X hT mb11628 gb11628 rfl (by omega) (show (-2147483648) ≤ ((-1) : Int32).toInt ∧ ((-1) : Int32).toInt ≤ 2147483647 from (rg_all _)) dX13_readWall_55 (fun F H locs hT v11631 h1v11631 h2v11631 => ?_)
    have pf0 := (h2v11631 _ _).trans pf0
    have pf1 := (h2v11631 _ _).trans pf1
    have pf2 := (h2v11631 _ _).trans pf2
    have pf7 := (h2v11631 _ _).trans pf7
    have pf8 := (h2v11631 _ _).trans pf8
    have pf9 := (h2v11631 _ _).trans pf9
    have pf10 := (h2v11631 _ _).trans pf10
    have pf11 := (h2v11631 _ _).trans pf11
    have qsoz11615 := (h2v11631 _ _).trans qsoz11615
    have qspz11615 := (h2v11631 _ _).trans qspz11615
    have qfaz11615 := (h2v11631 _ _).trans qfaz11615
    have qz11625 := (h2v11631 _ _).trans qz11625
    have hv11627 := (h2v11631 _ _).trans hv11627
    have hfr : (∀ b j : Nat, (tag b ≠ 44 ∨ j ≠ 10) → (tag b ≠ 44 ∨ j ≠ 12) → (tag b ≠ 46 ∨ j ≠ 8) → (tag b ≠ 46 ∨ j ≠ 9) → (tag b ≠ 46 ∨ j ≠ 10) → (tag b ≠ 46 ∨ j ≠ 11) → (tag b ≠ 46 ∨ j ≠ 12) → (tag b ≠ 46 ∨ j ≠ 13) → (tag b ≠ 46 ∨ j ≠ 14) → (tag b ≠ 46 ∨ j ≠ 15) → fld F b j = fld Fo b j) ∧ (∀ b j : Nat, tag b ≠ 33 → tag b ≠ 34 → tag b ≠ 35 → tag b ≠ 36 → elm F b j = elm Fo b j) := ⟨fun b j n44_10 n44_12 n46_8 n46_9 n46_10 n46_11 n46_12 n46_13 n46_14 n46_15 => (h2v11631 b j).trans (hfr.1 b j n44_10 n44_12 n46_8 n46_9 n46_10 n46_11 n46_12 n46_13 n46_14 n46_15), fun b j a33 a34 a35 a36 => (h1v11631 b j (Or.inl (at_ne gb11628 a33))).trans (hfr.2 b j a33 a34 a35 a36)⟩
    have hrel := msr_of (fun j => h1v11631 _ j (Or.inl (tne gx1 gb11628 (by decide)))) (fun j => h1v11631 _ j (Or.inl (tne gx2 gb11628 (by decide)))) hrel
    refine lv_aload_n hx hb dX13_readWall_56 rfl (lv_at hl 1 rfl) ?_
    refine t_get (C := RX13) (T := TX13) (N := 37) X hT m0 g0 rfl rfl 4 (by decide) qw_477 inlX13 rfl dX13_readWall_57 (fun v11632 hv11632 ov11632 => ?_)
    obtain rfl : v11632 = .ref x0 := hv11632.symm.trans pf0
    refine t_getN (C := RX12) (T := TX12) (N := 31) X hT mx0 gx0 rfl rfl 26 (by decide) (List.mem_of_getElem? (i := 30) rfl) inlX12 rfl dX13_readWall_60 (fun v11633 hv11633 ov11633 => ?_)
    obtain ⟨b11634, rfl, mb11634, gb11634⟩ := okV_r ov11633
    have gb11634 : tag b11634 = 33 := tg_of gb11634
    refine lv_aload_n hx hb dX13_readWall_63 rfl (lv_at hl 1 rfl) ?_
    refine t_get (C := RX13) (T := TX13) (N := 37) X hT m0 g0 rfl rfl 4 (by decide) qw_477 inlX13 rfl dX13_readWall_64 (fun v11635 hv11635 ov11635 => ?_)
    obtain rfl : v11635 = .ref x0 := hv11635.symm.trans pf0
    refine t_getN (C := RX12) (T := TX12) (N := 31) X hT mx0 gx0 rfl rfl 10 (by decide) (List.mem_of_getElem? (i := 14) rfl) inlX12 rfl dX13_readWall_67 (fun v11636 hv11636 ov11636 => ?_)
    obtain rfl : v11636 = .int x10 := hv11636.symm.trans pf10
    refine lv_iconst (v := (-1)) hx hb dX13_readWall_70 (by decide) ?_
    refine t_ist X hT mb11634 gb11634 rfl (by omega) (show (-2147483648) ≤ ((-1) : Int32).toInt ∧ ((-1) : Int32).toInt ≤ 2147483647 from (rg_all _)) dX13_readWall_71 (fun F H locs hT v11637 h1v11637 h2v11637 => ?_)
    have pf0 := (h2v11637 _ _).trans pf0
    have pf1 := (h2v11637 _ _).trans pf1
    have pf2 := (h2v11637 _ _).trans pf2
    have pf7 := (h2v11637 _ _).trans pf7
    have pf8 := (h2v11637 _ _).trans pf8
    have pf9 := (h2v11637 _ _).trans pf9
    have pf10 := (h2v11637 _ _).trans pf10
    have pf11 := (h2v11637 _ _).trans pf11
    have qsoz11615 := (h2v11637 _ _).trans qsoz11615
    have qspz11615 := (h2v11637 _ _).trans qspz11615
    have qfaz11615 := (h2v11637 _ _).trans qfaz11615
    have qz11625 := (h2v11637 _ _).trans qz11625
    have hv11627 := (h2v11637 _ _).trans hv11627
    have hv11633 := (h2v11637 _ _).trans hv11633
    have hfr : (∀ b j : Nat, (tag b ≠ 44 ∨ j ≠ 10) → (tag b ≠ 44 ∨ j ≠ 12) → (tag b ≠ 46 ∨ j ≠ 8) → (tag b ≠ 46 ∨ j ≠ 9) → (tag b ≠ 46 ∨ j ≠ 10) → (tag b ≠ 46 ∨ j ≠ 11) → (tag b ≠ 46 ∨ j ≠ 12) → (tag b ≠ 46 ∨ j ≠ 13) → (tag b ≠ 46 ∨ j ≠ 14) → (tag b ≠ 46 ∨ j ≠ 15) → fld F b j = fld Fo b j) ∧ (∀ b j : Nat, tag b ≠ 33 → tag b ≠ 34 → tag b ≠ 35 → tag b ≠ 36 → elm F b j = elm Fo b j) := ⟨fun b j n44_10 n44_12 n46_8 n46_9 n46_10 n46_11 n46_12 n46_13 n46_14 n46_15 => (h2v11637 b j).trans (hfr.1 b j n44_10 n44_12 n46_8 n46_9 n46_10 n46_11 n46_12 n46_13 n46_14 n46_15), fun b j a33 a34 a35 a36 => (h1v11637 b j (Or.inl (at_ne gb11634 a33))).trans (hfr.2 b j a33 a34 a35 a36)⟩
    have hrel := msr_of (fun j => h1v11637 _ j (Or.inl (tne gx1 gb11634 (by decide)))) (fun j => h1v11637 _ j (Or.inl (tne gx2 gb11634 (by decide)))) hrel
    refine lv_aload_n hx hb dX13_readWall_72 rfl (lv_at hl 1 rfl) ?_
    refine t_get (C := RX13) (T := TX13) (N := 37) X hT m0 g0 rfl rfl 4 (by decide) qw_477 inlX13 rfl dX13_readWall_73 (fun v11638 hv11638 ov11638 => ?_)
    obtain rfl : v11638 = .ref x0 := hv11638.symm.trans pf0
    refine lv_dup hx hb dX13_readWall_76 rfl ?_
    refine t_getN (C := RX12) (T := TX12) (N := 31) X hT mx0 gx0 rfl rfl 10 (by decide) (List.mem_of_getElem? (i := 14) rfl) inlX12 rfl dX13_readWall_77 (fun v11639 hv11639 ov11639 => ?_)
    obtain rfl : v11639 = .int x10 := hv11639.symm.trans pf10
    refine lv_iconst (v := 1) hx hb dX13_readWall_80 (by decide) ?_
    refine lv_iadd hx hb dX13_readWall_81 ?_
    refine lv_topi (fun z11640 ez11640 => ?_)
    have hz11640 : z11640.toInt = x10.toInt + 1 := ar_add ez11640 (rfl : x10.toInt = x10.toInt) (by decide : (1 : Int32).toInt = 1) (by omega) (by omega)
    have rz11640 : 1 ≤ z11640.toInt ∧ z11640.toInt ≤ 6 := by omega
    refine t_putN (C := RX12) (T := TX12) (N := 31) (v := .int z11640) X hT mx0 gx0 rfl tyX12 tyX12_ok nmX12 rfl 10 (by decide) (List.mem_of_getElem? (i := 14) rfl) inlX12 rfl (by first | rfl | decide) (by first | rfl | decide) rfl (⟨_, rfl, (show 0 ≤ (z11640 : Int32).toInt from (by omega)), (show (z11640 : Int32).toInt ≤ 6 from (by omega))⟩) dX13_readWall_82 (fun F H locs hT v11641 h1v11641 h2v11641 => ?_)
    have pf0 := (h1v11641 _ _ (Or.inr (by decide))).trans pf0
    have pf1 := (h1v11641 _ _ (Or.inr (by decide))).trans pf1
    have pf2 := (h1v11641 _ _ (Or.inr (by decide))).trans pf2
    have pf7 := (h1v11641 _ _ (Or.inr (by decide))).trans pf7
    have pf8 := (h1v11641 _ _ (Or.inr (by decide))).trans pf8
    have pf9 := (h1v11641 _ _ (Or.inr (by decide))).trans pf9
    have pf11 := (h1v11641 _ _ (Or.inr (by decide))).trans pf11
    have qsoz11615 := (h1v11641 _ _ (Or.inr (by decide))).trans qsoz11615
    have qspz11615 := (h1v11641 _ _ (Or.inr (by decide))).trans qspz11615
    have qfaz11615 := (h1v11641 _ _ (Or.inr (by decide))).trans qfaz11615
    have qz11625 := (h1v11641 _ _ (Or.inr (by decide))).trans qz11625
    have hv11627 := (h1v11641 _ _ (Or.inr (by decide))).trans hv11627
    have hv11633 := (h1v11641 _ _ (Or.inr (by decide))).trans hv11633
    have v11637 := (h2v11641 _ _).trans v11637
    have hfr : (∀ b j : Nat, (tag b ≠ 44 ∨ j ≠ 10) → (tag b ≠ 44 ∨ j ≠ 12) → (tag b ≠ 46 ∨ j ≠ 8) → (tag b ≠ 46 ∨ j ≠ 9) → (tag b ≠ 46 ∨ j ≠ 10) → (tag b ≠ 46 ∨ j ≠ 11) → (tag b ≠ 46 ∨ j ≠ 12) → (tag b ≠ 46 ∨ j ≠ 13) → (tag b ≠ 46 ∨ j ≠ 14) → (tag b ≠ 46 ∨ j ≠ 15) → fld F b j = fld Fo b j) ∧ (∀ b j : Nat, tag b ≠ 33 → tag b ≠ 34 → tag b ≠ 35 → tag b ≠ 36 → elm F b j = elm Fo b j) := ⟨fun b j n44_10 n44_12 n46_8 n46_9 n46_10 n46_11 n46_12 n46_13 n46_14 n46_15 => (h1v11641 b j (fr_ne gx0 n44_10)).trans (hfr.1 b j n44_10 n44_12 n46_8 n46_9 n46_10 n46_11 n46_12 n46_13 n46_14 n46_15), fun b j a33 a34 a35 a36 => (h2v11641 b j).trans (hfr.2 b j a33 a34 a35 a36)⟩
    have hrel := msr_of (fun j => h2v11641 _ j) (fun j => h2v11641 _ j) hrel
    have hpu9 := hpl
    unfold PLr at hpu9
    have hpl : PLr z11625 x7 x8 x9 z11640 x11 := ⟨by omega, fun _ => by omega⟩
    exact t_vret hQ X hT ⟨hfr, hrel, ⟨soz11615, spz11615, faz11615, qsoz11615, qspz11615, qfaz11615, (by omega), (by omega), (by omega), hstk, hspt, hkf⟩, ⟨z11625, x7, x8, x9, z11640, x11, qz11625, pf7, pf8, pf9, v11641, pf11, (by omega), (by omega), (by omega), (by omega), (by omega), (by omega), hpl⟩⟩ (Nat.le_of_ble_eq_true rfl) (Nat.le_of_ble_eq_true rfl) dX13_readWall_85
  · have w11642 := cv_eq (rfl : soz11615.toInt = soz11615.toInt) (by decide : (5 : Int32).toInt = 5) c11617
    exact t_vret hQ X hT ⟨hfr, hrel, ⟨soz11615, spz11615, faz11615, qsoz11615, qspz11615, qfaz11615, (by omega), (by omega), (by omega), hstk, hspt, hkf⟩, ⟨x6, x7, x8, x9, x10, x11, pf6, pf7, pf8, pf9, pf10, pf11, (by omega), (by omega), (by omega), (by omega), (by omega), (by omega), hpl⟩⟩ (Nat.le_of_ble_eq_true rfl) (Nat.le_of_ble_eq_true rfl) dX13_readWall_26
set_option maxHeartbeats 4000000 in
set_option maxRecDepth 100000 in
theorem km29_X13_known (l : Launch) (G : KG) (tag : Nat → Nat) (L : List Nat) (Fo : Nat → va_E) (ho : okT G ttC tag L Fo) (p0 : Nat) (p1 : Int32) (x0 : Nat) (x1 : Nat) (x2 : Nat) (x3 : Int32) (x4 : Int32) (x5 : Int32) (m0 : p0 ∈ L) (g0 : tag p0 = 46) (h1 : 1 ≤ p1.toInt ∧ p1.toInt ≤ 1) (mx0 : x0 ∈ L) (gx0 : tag x0 = 44) (pf0 : fld Fo p0 4 = .ref x0) (mx1 : x1 ∈ L) (gx1 : tag x1 = 35) (pf1 : fld Fo x0 28 = .ref x1) (mx2 : x2 ∈ L) (gx2 : tag x2 = 36) (pf2 : fld Fo x0 29 = .ref x2) (hx3 : 0 ≤ x3.toInt ∧ x3.toInt ≤ 5) (pf3 : fld Fo p0 9 = .int x3) (hx4 : 0 ≤ x4.toInt ∧ x4.toInt ≤ 1000) (pf4 : fld Fo p0 8 = .int x4) (hx5 : 0 ≤ x5.toInt ∧ x5.toInt ≤ 7) (pf5 : fld Fo p0 13 = .int x5) (hrel : MSR Fo x1 x2) (hkf : KF x3 x5) : TMi l yX13_known cX13_known 3 (some .int) { frames := 7, cells := 0, slots := 0, locals := 149 } G ttC tag L Fo [.ref p0, .int p1] (fun r F1 => (0 ≤ r.toInt ∧ r.toInt ≤ 3) ∧ ((∀ b j : Nat, (tag b ≠ 46 ∨ j ≠ 9) → (tag b ≠ 46 ∨ j ≠ 13) → (tag b ≠ 46 ∨ j ≠ 14) → fld F1 b j = fld Fo b j) ∧ (∀ b j : Nat, elm F1 b j = elm Fo b j)) ∧ (MSR F1 x1 x2) ∧ (∃ so sp fa : Int32, fld F1 p0 9 = .int so ∧ fld F1 p0 8 = .int sp ∧ fld F1 p0 13 = .int fa ∧ (0 ≤ so.toInt ∧ so.toInt ≤ 5) ∧ (0 ≤ sp.toInt ∧ sp.toInt ≤ 1000) ∧ (0 ≤ fa.toInt ∧ fa.toInt ≤ 7) ∧ STK x3 so ∧ SPT x3 x4 so sp ∧ KF so fa)) := by
  refine t_bodyi (y := yX13_known) (cd := cX13_known) (mL := 3) (rt := (some .int)) (rm := { frames := 7, cells := 0, slots := 0, locals := 149 }) (av := [.ref p0, .int p1]) (by decide) (Nat.le_of_ble_eq_true rfl) ho ?_
  intro p e s m args below meth c ls A Q hQ X hT hl
  have hx := X.1.1
  have hb := X.1.2.1
  have hl : lv_has ls 3 [(0, .ref p0), (1, .int p1)] := hl
  obtain ⟨F, hFo⟩ : ∃ F : Nat → va_E, F = Fo := ⟨_, rfl⟩
  rw [← hFo] at hT pf0 pf1 pf2 pf3 pf4 pf5 hrel
  have hfr : (∀ b j : Nat, (tag b ≠ 46 ∨ j ≠ 9) → (tag b ≠ 46 ∨ j ≠ 13) → (tag b ≠ 46 ∨ j ≠ 14) → fld F b j = fld Fo b j) ∧ (∀ b j : Nat, elm F b j = elm Fo b j) := by
    rw [hFo]
    exact ⟨by intros; rfl, by intros; rfl⟩
  have hstk : STK x3 x3 := STK.rf
  have hspt : SPT x3 x4 x3 x4 := SPT.rf
  refine lv_aload_n hx hb dX13_known_0 rfl (lv_at hl 0 rfl) ?_
  refine t_cVi (n := 0) (C := RX13) (T := TX13) (N := 37) (As := []) (rest := []) X hT (km16_X13_isName l G tag L F hT.2.2.2 p0 x3 m0 g0 (by omega) pf3) m0 g0 rfl rfl qw_599 qw_600 qw_601 qw_5 qw_602 ⟨rfl, by decide +kernel, by decide +kernel, by decide +kernel⟩ ⟨Nat.le_of_ble_eq_true rfl, Nat.le_of_ble_eq_true rfl⟩ hl rfl rfl (Nat.le_of_ble_eq_true rfl) dX13_known_1 ⟨Nat.le_of_ble_eq_true rfl, Nat.le_of_ble_eq_true rfl⟩ (fun z12332 F9 H locs hT hz12332 => ?_)
  obtain ⟨fz12332, hz12332⟩ := hz12332
  rw [fz12332] at hT
  refine lv_if_ne (tgt := 12) hx hb dX13_known_4 (by decide) (fun c12333 => ?_) (fun c12333 => ?_)
  · have w12334 := cv_ne (rfl : z12332.toInt = z12332.toInt) (by decide : (0 : Int32).toInt = 0) c12333
    refine lv_aload_n hx hb dX13_known_12 rfl (lv_at hl 0 rfl) ?_
    refine t_get (C := RX13) (T := TX13) (N := 37) X hT m0 g0 rfl rfl 4 (by decide) qw_477 inlX13 rfl dX13_known_13 (fun v12335 hv12335 ov12335 => ?_)
    obtain rfl : v12335 = .ref x0 := hv12335.symm.trans pf0
    refine lv_aload_n hx hb dX13_known_16 rfl (lv_at hl 0 rfl) ?_
    refine t_get (C := RX13) (T := TX13) (N := 37) X hT m0 g0 rfl rfl 15 (by decide) qw_514 inlX13 rfl dX13_known_17 (fun v12336 hv12336 ov12336 => ?_)
    obtain ⟨z12337, rfl⟩ := ov12336
    refine t_cVi (n := 1) (C := RX12) (T := TX12) (N := 31) (As := [.long z12337]) (rest := []) X hT (km17_X12_find l G tag L F hT.2.2.2 x0 z12337 mx0 gx0) mx0 gx0 rfl rfl qw_603 qw_604 qw_605 qw_476 qw_606 ⟨rfl, by decide +kernel, by decide +kernel, by decide +kernel⟩ ⟨Nat.le_of_ble_eq_true rfl, Nat.le_of_ble_eq_true rfl⟩ hl rfl rfl (Nat.le_of_ble_eq_true rfl) dX13_known_20 ⟨Nat.le_of_ble_eq_true rfl, Nat.le_of_ble_eq_true rfl⟩ (fun z12338 F9 H locs hT hz12338 => ?_)
    obtain ⟨fz12338, hz12338⟩ := hz12338
    rw [fz12338] at hT
    refine lv_istore_n (lv' := [(2, .int z12338), (0, .ref p0), (1, .int p1)]) hx hb dX13_known_23 rfl hl (by decide) rfl (fun ls hl => ?_)
    refine lv_iload_n hx hb dX13_known_24 rfl (lv_at hl 0 rfl) ?_
    refine lv_iconst (v := (-1)) hx hb dX13_known_25 (by decide) ?_
    refine lv_icmp_eq (tgt := 42) hx hb dX13_known_26 (by decide) (fun c12339 => ?_) (fun c12339 => ?_)
    · have w12340 := cv_eq (rfl : z12338.toInt = z12338.toInt) (by decide : ((-1) : Int32).toInt = (-1)) c12339
      refine lv_aload_n hx hb dX13_known_42 rfl (lv_at hl 1 rfl) ?_
      refine lv_iconst (v := 2) hx hb dX13_known_43 (by decide) ?_
      refine t_cVv (n := 1) (C := RX13) (T := TX13) (N := 37) (As := [.int 2]) (rest := []) X hT (km10_X13_flaw l G tag L F hT.2.2.2 p0 2 x0 x1 x2 x3 x4 x5 m0 g0 (by decide) mx0 gx0 pf0 mx1 gx1 pf1 mx2 gx2 pf2 (by omega) pf3 (by omega) pf4 (by omega) pf5 hkf) m0 g0 rfl rfl qw_548 qw_549 qw_550 qw_5 qw_551 ⟨rfl, by decide +kernel, by decide +kernel, by decide +kernel⟩ ⟨Nat.le_of_ble_eq_true rfl, Nat.le_of_ble_eq_true rfl⟩ hl rfl rfl (Nat.le_of_ble_eq_true rfl) dX13_known_44 ⟨Nat.le_of_ble_eq_true rfl, Nat.le_of_ble_eq_true rfl⟩ (fun F H locs hT hz12341 => ?_)
      obtain ⟨yz12341, ⟨soz12341, spz12341, faz12341, qsoz12341, qspz12341, qfaz12341, rsoz12341, rspz12341, rfaz12341, stz12341, ptz12341, hkf, pxz12341_0⟩⟩ := hz12341
      have pf0 := (yz12341.1 _ 4 (Or.inr (by decide)) (Or.inr (by decide)) (Or.inr (by decide))).trans pf0
      have pf1 := (yz12341.1 _ 28 (Or.inr (by decide)) (Or.inr (by decide)) (Or.inr (by decide))).trans pf1
      have pf2 := (yz12341.1 _ 29 (Or.inr (by decide)) (Or.inr (by decide)) (Or.inr (by decide))).trans pf2
      have pf4 := (yz12341.1 _ 8 (Or.inr (by decide)) (Or.inr (by decide)) (Or.inr (by decide))).trans pf4
      have hfr : (∀ b j : Nat, (tag b ≠ 46 ∨ j ≠ 9) → (tag b ≠ 46 ∨ j ≠ 13) → (tag b ≠ 46 ∨ j ≠ 14) → fld F b j = fld Fo b j) ∧ (∀ b j : Nat, elm F b j = elm Fo b j) := ⟨fun b j n46_9 n46_13 n46_14 => (yz12341.1 b j n46_9 n46_13 n46_14).trans (hfr.1 b j n46_9 n46_13 n46_14), fun b j  => (yz12341.2 b j ).trans (hfr.2 b j )⟩
      have hrel := msr_of (fun j => yz12341.2 _ j ) (fun j => yz12341.2 _ j ) hrel
      have hstk := STK.tr hstk stz12341
      have hspt := SPT.tr hspt ptz12341
      refine lv_aload_n hx hb dX13_known_47 rfl (lv_at hl 1 rfl) ?_
      refine t_get (C := RX13) (T := TX13) (N := 37) X hT m0 g0 rfl rfl 9 (by decide) qw_478 inlX13 rfl dX13_known_48 (fun v12342 hv12342 ov12342 => ?_)
      obtain rfl : v12342 = .int soz12341 := hv12342.symm.trans qsoz12341
      refine lv_iconst (v := 5) hx hb dX13_known_51 (by decide) ?_
      refine lv_icmp_ne (tgt := 59) hx hb dX13_known_52 (by decide) (fun c12343 => ?_) (fun c12343 => ?_)
      · have w12344 := cv_ne (rfl : soz12341.toInt = soz12341.toInt) (by decide : (5 : Int32).toInt = 5) c12343
        exfalso
        omega
      · have w12345 := cv_eq (rfl : soz12341.toInt = soz12341.toInt) (by decide : (5 : Int32).toInt = 5) c12343
        refine lv_iconst (v := 0) hx hb dX13_known_55 (by decide) ?_
        refine lv_goto (tgt := 68) hx hb dX13_known_56 (by decide) ?_
        have k12346 : (0 : Int32).toInt = 0 := by decide
        exact t_iret hQ X hT (⟨(by decide), hfr, hrel, ⟨soz12341, spz12341, faz12341, qsoz12341, qspz12341, qfaz12341, (by omega), (by omega), (by omega), hstk, hspt, hkf⟩⟩) (Nat.le_of_ble_eq_true rfl) (Nat.le_of_ble_eq_true rfl) dX13_known_68
    · have w12347 := cv_ne (rfl : z12338.toInt = z12338.toInt) (by decide : ((-1) : Int32).toInt = (-1)) c12339
      refine lv_aload_n hx hb dX13_known_29 rfl (lv_at hl 1 rfl) ?_
      refine t_get (C := RX13) (T := TX13) (N := 37) X hT m0 g0 rfl rfl 4 (by decide) qw_477 inlX13 rfl dX13_known_30 (fun v12348 hv12348 ov12348 => ?_)
      obtain rfl : v12348 = .ref x0 := hv12348.symm.trans pf0
      refine t_getN (C := RX12) (T := TX12) (N := 31) X hT mx0 gx0 rfl rfl 28 (by decide) (List.mem_of_getElem? (i := 32) rfl) inlX12 rfl dX13_known_33 (fun v12349 hv12349 ov12349 => ?_)
      obtain rfl : v12349 = .ref x1 := hv12349.symm.trans pf1
      refine lv_iload_n hx hb dX13_known_36 rfl (lv_at hl 0 rfl) ?_
      refine t_ild X hT mx1 gx1 rfl (by omega) dX13_known_37 (fun z12350 vz12350 rz12350 => ?_)
      have rz12350 : (-2147483648) ≤ z12350.toInt ∧ z12350.toInt ≤ 2147483647 := rz12350
      refine lv_iload_n hx hb dX13_known_38 rfl (lv_at hl 2 rfl) ?_
      refine lv_icmp_eq (tgt := 47) hx hb dX13_known_39 (by decide) (fun c12351 => ?_) (fun c12351 => ?_)
      · have w12352 := cv_eq (rfl : z12350.toInt = z12350.toInt) (rfl : p1.toInt = p1.toInt) c12351
        refine lv_aload_n hx hb dX13_known_47 rfl (lv_at hl 1 rfl) ?_
        refine t_get (C := RX13) (T := TX13) (N := 37) X hT m0 g0 rfl rfl 9 (by decide) qw_478 inlX13 rfl dX13_known_48 (fun v12353 hv12353 ov12353 => ?_)
        obtain rfl : v12353 = .int x3 := hv12353.symm.trans pf3
        refine lv_iconst (v := 5) hx hb dX13_known_51 (by decide) ?_
        refine lv_icmp_ne (tgt := 59) hx hb dX13_known_52 (by decide) (fun c12354 => ?_) (fun c12354 => ?_)
        · have w12355 := cv_ne (rfl : x3.toInt = x3.toInt) (by decide : (5 : Int32).toInt = 5) c12354
          refine lv_aload_n hx hb dX13_known_59 rfl (lv_at hl 1 rfl) ?_
          refine t_get (C := RX13) (T := TX13) (N := 37) X hT m0 g0 rfl rfl 4 (by decide) qw_477 inlX13 rfl dX13_known_60 (fun v12356 hv12356 ov12356 => ?_)
          obtain rfl : v12356 = .ref x0 := hv12356.symm.trans pf0
          refine t_getN (C := RX12) (T := TX12) (N := 31) X hT mx0 gx0 rfl rfl 29 (by decide) (List.mem_of_getElem? (i := 33) rfl) inlX12 rfl dX13_known_63 (fun v12357 hv12357 ov12357 => ?_)
          obtain rfl : v12357 = .ref x2 := hv12357.symm.trans pf2
          refine lv_iload_n hx hb dX13_known_66 rfl (lv_at hl 0 rfl) ?_
          refine t_ild X hT mx2 gx2 rfl (by omega) dX13_known_67 (fun z12358 vz12358 rz12358 => ?_)
          have rz12358 : (-2147483648) ≤ z12358.toInt ∧ z12358.toInt ≤ 2147483647 := rz12358
          have rz12358 := msr_1 hrel vz12350 vz12358 (by omega)
          exact t_iret hQ X hT (⟨(by omega), hfr, hrel, ⟨x3, x4, x5, pf3, pf4, pf5, (by omega), (by omega), (by omega), hstk, hspt, hkf⟩⟩) (Nat.le_of_ble_eq_true rfl) (Nat.le_of_ble_eq_true rfl) dX13_known_68
        · have w12359 := cv_eq (rfl : x3.toInt = x3.toInt) (by decide : (5 : Int32).toInt = 5) c12354
          refine lv_iconst (v := 0) hx hb dX13_known_55 (by decide) ?_
          refine lv_goto (tgt := 68) hx hb dX13_known_56 (by decide) ?_
          have k12360 : (0 : Int32).toInt = 0 := by decide
          exact t_iret hQ X hT (⟨(by decide), hfr, hrel, ⟨x3, x4, x5, pf3, pf4, pf5, (by omega), (by omega), (by omega), hstk, hspt, hkf⟩⟩) (Nat.le_of_ble_eq_true rfl) (Nat.le_of_ble_eq_true rfl) dX13_known_68
      · have w12361 := cv_ne (rfl : z12350.toInt = z12350.toInt) (rfl : p1.toInt = p1.toInt) c12351
        refine lv_aload_n hx hb dX13_known_42 rfl (lv_at hl 1 rfl) ?_
        refine lv_iconst (v := 2) hx hb dX13_known_43 (by decide) ?_
        refine t_cVv (n := 1) (C := RX13) (T := TX13) (N := 37) (As := [.int 2]) (rest := []) X hT (km10_X13_flaw l G tag L F hT.2.2.2 p0 2 x0 x1 x2 x3 x4 x5 m0 g0 (by decide) mx0 gx0 pf0 mx1 gx1 pf1 mx2 gx2 pf2 (by omega) pf3 (by omega) pf4 (by omega) pf5 hkf) m0 g0 rfl rfl qw_548 qw_549 qw_550 qw_5 qw_551 ⟨rfl, by decide +kernel, by decide +kernel, by decide +kernel⟩ ⟨Nat.le_of_ble_eq_true rfl, Nat.le_of_ble_eq_true rfl⟩ hl rfl rfl (Nat.le_of_ble_eq_true rfl) dX13_known_44 ⟨Nat.le_of_ble_eq_true rfl, Nat.le_of_ble_eq_true rfl⟩ (fun F H locs hT hz12362 => ?_)
        obtain ⟨yz12362, ⟨soz12362, spz12362, faz12362, qsoz12362, qspz12362, qfaz12362, rsoz12362, rspz12362, rfaz12362, stz12362, ptz12362, hkf, pxz12362_0⟩⟩ := hz12362
        have pf0 := (yz12362.1 _ 4 (Or.inr (by decide)) (Or.inr (by decide)) (Or.inr (by decide))).trans pf0
        have pf1 := (yz12362.1 _ 28 (Or.inr (by decide)) (Or.inr (by decide)) (Or.inr (by decide))).trans pf1
        have pf2 := (yz12362.1 _ 29 (Or.inr (by decide)) (Or.inr (by decide)) (Or.inr (by decide))).trans pf2
        have pf4 := (yz12362.1 _ 8 (Or.inr (by decide)) (Or.inr (by decide)) (Or.inr (by decide))).trans pf4
        have vz12350 := (yz12362.2 _ _ ).trans vz12350
        have hfr : (∀ b j : Nat, (tag b ≠ 46 ∨ j ≠ 9) → (tag b ≠ 46 ∨ j ≠ 13) → (tag b ≠ 46 ∨ j ≠ 14) → fld F b j = fld Fo b j) ∧ (∀ b j : Nat, elm F b j = elm Fo b j) := ⟨fun b j n46_9 n46_13 n46_14 => (yz12362.1 b j n46_9 n46_13 n46_14).trans (hfr.1 b j n46_9 n46_13 n46_14), fun b j  => (yz12362.2 b j ).trans (hfr.2 b j )⟩
        have hrel := msr_of (fun j => yz12362.2 _ j ) (fun j => yz12362.2 _ j ) hrel
        have hstk := STK.tr hstk stz12362
        have hspt := SPT.tr hspt ptz12362
        refine lv_aload_n hx hb dX13_known_47 rfl (lv_at hl 1 rfl) ?_
        refine t_get (C := RX13) (T := TX13) (N := 37) X hT m0 g0 rfl rfl 9 (by decide) qw_478 inlX13 rfl dX13_known_48 (fun v12363 hv12363 ov12363 => ?_)
        obtain rfl : v12363 = .int soz12362 := hv12363.symm.trans qsoz12362
        refine lv_iconst (v := 5) hx hb dX13_known_51 (by decide) ?_
        refine lv_icmp_ne (tgt := 59) hx hb dX13_known_52 (by decide) (fun c12364 => ?_) (fun c12364 => ?_)
        · have w12365 := cv_ne (rfl : soz12362.toInt = soz12362.toInt) (by decide : (5 : Int32).toInt = 5) c12364
          exfalso
          omega
        · have w12366 := cv_eq (rfl : soz12362.toInt = soz12362.toInt) (by decide : (5 : Int32).toInt = 5) c12364
          refine lv_iconst (v := 0) hx hb dX13_known_55 (by decide) ?_
          refine lv_goto (tgt := 68) hx hb dX13_known_56 (by decide) ?_
          have k12367 : (0 : Int32).toInt = 0 := by decide
          exact t_iret hQ X hT (⟨(by decide), hfr, hrel, ⟨soz12362, spz12362, faz12362, qsoz12362, qspz12362, qfaz12362, (by omega), (by omega), (by omega), hstk, hspt, hkf⟩⟩) (Nat.le_of_ble_eq_true rfl) (Nat.le_of_ble_eq_true rfl) dX13_known_68
  · have w12368 := cv_eq (rfl : z12332.toInt = z12332.toInt) (by decide : (0 : Int32).toInt = 0) c12333
    refine lv_aload_n hx hb dX13_known_7 rfl (lv_at hl 0 rfl) ?_
    refine lv_iconst (v := 1) hx hb dX13_known_8 (by decide) ?_
    refine t_cVv (n := 1) (C := RX13) (T := TX13) (N := 37) (As := [.int 1]) (rest := []) X hT (km10_X13_flaw l G tag L F hT.2.2.2 p0 1 x0 x1 x2 x3 x4 x5 m0 g0 (by decide) mx0 gx0 pf0 mx1 gx1 pf1 mx2 gx2 pf2 (by omega) pf3 (by omega) pf4 (by omega) pf5 hkf) m0 g0 rfl rfl qw_548 qw_549 qw_550 qw_5 qw_551 ⟨rfl, by decide +kernel, by decide +kernel, by decide +kernel⟩ ⟨Nat.le_of_ble_eq_true rfl, Nat.le_of_ble_eq_true rfl⟩ hl rfl rfl (Nat.le_of_ble_eq_true rfl) dX13_known_9 ⟨Nat.le_of_ble_eq_true rfl, Nat.le_of_ble_eq_true rfl⟩ (fun F H locs hT hz12369 => ?_)
    obtain ⟨yz12369, ⟨soz12369, spz12369, faz12369, qsoz12369, qspz12369, qfaz12369, rsoz12369, rspz12369, rfaz12369, stz12369, ptz12369, hkf, pxz12369_0⟩⟩ := hz12369
    have pf0 := (yz12369.1 _ 4 (Or.inr (by decide)) (Or.inr (by decide)) (Or.inr (by decide))).trans pf0
    have pf1 := (yz12369.1 _ 28 (Or.inr (by decide)) (Or.inr (by decide)) (Or.inr (by decide))).trans pf1
    have pf2 := (yz12369.1 _ 29 (Or.inr (by decide)) (Or.inr (by decide)) (Or.inr (by decide))).trans pf2
    have pf4 := (yz12369.1 _ 8 (Or.inr (by decide)) (Or.inr (by decide)) (Or.inr (by decide))).trans pf4
    have hfr : (∀ b j : Nat, (tag b ≠ 46 ∨ j ≠ 9) → (tag b ≠ 46 ∨ j ≠ 13) → (tag b ≠ 46 ∨ j ≠ 14) → fld F b j = fld Fo b j) ∧ (∀ b j : Nat, elm F b j = elm Fo b j) := ⟨fun b j n46_9 n46_13 n46_14 => (yz12369.1 b j n46_9 n46_13 n46_14).trans (hfr.1 b j n46_9 n46_13 n46_14), fun b j  => (yz12369.2 b j ).trans (hfr.2 b j )⟩
    have hrel := msr_of (fun j => yz12369.2 _ j ) (fun j => yz12369.2 _ j ) hrel
    have hstk := STK.tr hstk stz12369
    have hspt := SPT.tr hspt ptz12369
    refine lv_aload_n hx hb dX13_known_12 rfl (lv_at hl 0 rfl) ?_
    refine t_get (C := RX13) (T := TX13) (N := 37) X hT m0 g0 rfl rfl 4 (by decide) qw_477 inlX13 rfl dX13_known_13 (fun v12370 hv12370 ov12370 => ?_)
    obtain rfl : v12370 = .ref x0 := hv12370.symm.trans pf0
    refine lv_aload_n hx hb dX13_known_16 rfl (lv_at hl 0 rfl) ?_
    refine t_get (C := RX13) (T := TX13) (N := 37) X hT m0 g0 rfl rfl 15 (by decide) qw_514 inlX13 rfl dX13_known_17 (fun v12371 hv12371 ov12371 => ?_)
    obtain ⟨z12372, rfl⟩ := ov12371
    refine t_cVi (n := 1) (C := RX12) (T := TX12) (N := 31) (As := [.long z12372]) (rest := []) X hT (km17_X12_find l G tag L F hT.2.2.2 x0 z12372 mx0 gx0) mx0 gx0 rfl rfl qw_603 qw_604 qw_605 qw_476 qw_606 ⟨rfl, by decide +kernel, by decide +kernel, by decide +kernel⟩ ⟨Nat.le_of_ble_eq_true rfl, Nat.le_of_ble_eq_true rfl⟩ hl rfl rfl (Nat.le_of_ble_eq_true rfl) dX13_known_20 ⟨Nat.le_of_ble_eq_true rfl, Nat.le_of_ble_eq_true rfl⟩ (fun z12373 F9 H locs hT hz12373 => ?_)
    obtain ⟨fz12373, hz12373⟩ := hz12373
    rw [fz12373] at hT
    refine lv_istore_n (lv' := [(2, .int z12373), (0, .ref p0), (1, .int p1)]) hx hb dX13_known_23 rfl hl (by decide) rfl (fun ls hl => ?_)
    refine lv_iload_n hx hb dX13_known_24 rfl (lv_at hl 0 rfl) ?_
    refine lv_iconst (v := (-1)) hx hb dX13_known_25 (by decide) ?_
    refine lv_icmp_eq (tgt := 42) hx hb dX13_known_26 (by decide) (fun c12374 => ?_) (fun c12374 => ?_)
    · have w12375 := cv_eq (rfl : z12373.toInt = z12373.toInt) (by decide : ((-1) : Int32).toInt = (-1)) c12374
      refine lv_aload_n hx hb dX13_known_42 rfl (lv_at hl 1 rfl) ?_
      refine lv_iconst (v := 2) hx hb dX13_known_43 (by decide) ?_
      refine t_cVv (n := 1) (C := RX13) (T := TX13) (N := 37) (As := [.int 2]) (rest := []) X hT (km10_X13_flaw l G tag L F hT.2.2.2 p0 2 x0 x1 x2 soz12369 spz12369 faz12369 m0 g0 (by decide) mx0 gx0 pf0 mx1 gx1 pf1 mx2 gx2 pf2 (by omega) qsoz12369 (by omega) qspz12369 (by omega) qfaz12369 hkf) m0 g0 rfl rfl qw_548 qw_549 qw_550 qw_5 qw_551 ⟨rfl, by decide +kernel, by decide +kernel, by decide +kernel⟩ ⟨Nat.le_of_ble_eq_true rfl, Nat.le_of_ble_eq_true rfl⟩ hl rfl rfl (Nat.le_of_ble_eq_true rfl) dX13_known_44 ⟨Nat.le_of_ble_eq_true rfl, Nat.le_of_ble_eq_true rfl⟩ (fun F H locs hT hz12376 => ?_)
      obtain ⟨yz12376, ⟨soz12376, spz12376, faz12376, qsoz12376, qspz12376, qfaz12376, rsoz12376, rspz12376, rfaz12376, stz12376, ptz12376, hkf, pxz12376_0⟩⟩ := hz12376
      have pf0 := (yz12376.1 _ 4 (Or.inr (by decide)) (Or.inr (by decide)) (Or.inr (by decide))).trans pf0
      have pf1 := (yz12376.1 _ 28 (Or.inr (by decide)) (Or.inr (by decide)) (Or.inr (by decide))).trans pf1
      have pf2 := (yz12376.1 _ 29 (Or.inr (by decide)) (Or.inr (by decide)) (Or.inr (by decide))).trans pf2
      have qspz12369 := (yz12376.1 _ 8 (Or.inr (by decide)) (Or.inr (by decide)) (Or.inr (by decide))).trans qspz12369
      have hfr : (∀ b j : Nat, (tag b ≠ 46 ∨ j ≠ 9) → (tag b ≠ 46 ∨ j ≠ 13) → (tag b ≠ 46 ∨ j ≠ 14) → fld F b j = fld Fo b j) ∧ (∀ b j : Nat, elm F b j = elm Fo b j) := ⟨fun b j n46_9 n46_13 n46_14 => (yz12376.1 b j n46_9 n46_13 n46_14).trans (hfr.1 b j n46_9 n46_13 n46_14), fun b j  => (yz12376.2 b j ).trans (hfr.2 b j )⟩
      have hrel := msr_of (fun j => yz12376.2 _ j ) (fun j => yz12376.2 _ j ) hrel
      have hstk := STK.tr hstk stz12376
      have hspt := SPT.tr hspt ptz12376
      have k5z12376 : soz12376.toInt = 5 := stz12376 (by omega)
      refine lv_aload_n hx hb dX13_known_47 rfl (lv_at hl 1 rfl) ?_
      refine t_get (C := RX13) (T := TX13) (N := 37) X hT m0 g0 rfl rfl 9 (by decide) qw_478 inlX13 rfl dX13_known_48 (fun v12377 hv12377 ov12377 => ?_)
      obtain rfl : v12377 = .int soz12376 := hv12377.symm.trans qsoz12376
      refine lv_iconst (v := 5) hx hb dX13_known_51 (by decide) ?_
      refine lv_icmp_ne (tgt := 59) hx hb dX13_known_52 (by decide) (fun c12378 => ?_) (fun c12378 => ?_)
      · have w12379 := cv_ne (rfl : soz12376.toInt = soz12376.toInt) (by decide : (5 : Int32).toInt = 5) c12378
        exfalso
        omega
      · have w12380 := cv_eq (rfl : soz12376.toInt = soz12376.toInt) (by decide : (5 : Int32).toInt = 5) c12378
        refine lv_iconst (v := 0) hx hb dX13_known_55 (by decide) ?_
        refine lv_goto (tgt := 68) hx hb dX13_known_56 (by decide) ?_
        have k12381 : (0 : Int32).toInt = 0 := by decide
        exact t_iret hQ X hT (⟨(by decide), hfr, hrel, ⟨soz12376, spz12376, faz12376, qsoz12376, qspz12376, qfaz12376, (by omega), (by omega), (by omega), hstk, hspt, hkf⟩⟩) (Nat.le_of_ble_eq_true rfl) (Nat.le_of_ble_eq_true rfl) dX13_known_68
    · have w12382 := cv_ne (rfl : z12373.toInt = z12373.toInt) (by decide : ((-1) : Int32).toInt = (-1)) c12374
      refine lv_aload_n hx hb dX13_known_29 rfl (lv_at hl 1 rfl) ?_
      refine t_get (C := RX13) (T := TX13) (N := 37) X hT m0 g0 rfl rfl 4 (by decide) qw_477 inlX13 rfl dX13_known_30 (fun v12383 hv12383 ov12383 => ?_)
      obtain rfl : v12383 = .ref x0 := hv12383.symm.trans pf0
      refine t_getN (C := RX12) (T := TX12) (N := 31) X hT mx0 gx0 rfl rfl 28 (by decide) (List.mem_of_getElem? (i := 32) rfl) inlX12 rfl dX13_known_33 (fun v12384 hv12384 ov12384 => ?_)
      obtain rfl : v12384 = .ref x1 := hv12384.symm.trans pf1
      refine lv_iload_n hx hb dX13_known_36 rfl (lv_at hl 0 rfl) ?_
      refine t_ild X hT mx1 gx1 rfl (by omega) dX13_known_37 (fun z12385 vz12385 rz12385 => ?_)
      have rz12385 : (-2147483648) ≤ z12385.toInt ∧ z12385.toInt ≤ 2147483647 := rz12385
      refine lv_iload_n hx hb dX13_known_38 rfl (lv_at hl 2 rfl) ?_
      refine lv_icmp_eq (tgt := 47) hx hb dX13_known_39 (by decide) (fun c12386 => ?_) (fun c12386 => ?_)
      · have w12387 := cv_eq (rfl : z12385.toInt = z12385.toInt) (rfl : p1.toInt = p1.toInt) c12386
        refine lv_aload_n hx hb dX13_known_47 rfl (lv_at hl 1 rfl) ?_
        refine t_get (C := RX13) (T := TX13) (N := 37) X hT m0 g0 rfl rfl 9 (by decide) qw_478 inlX13 rfl dX13_known_48 (fun v12388 hv12388 ov12388 => ?_)
        obtain rfl : v12388 = .int soz12369 := hv12388.symm.trans qsoz12369
        refine lv_iconst (v := 5) hx hb dX13_known_51 (by decide) ?_
        refine lv_icmp_ne (tgt := 59) hx hb dX13_known_52 (by decide) (fun c12389 => ?_) (fun c12389 => ?_)
        · have w12390 := cv_ne (rfl : soz12369.toInt = soz12369.toInt) (by decide : (5 : Int32).toInt = 5) c12389
          exfalso
          omega
        · have w12391 := cv_eq (rfl : soz12369.toInt = soz12369.toInt) (by decide : (5 : Int32).toInt = 5) c12389
          refine lv_iconst (v := 0) hx hb dX13_known_55 (by decide) ?_
          refine lv_goto (tgt := 68) hx hb dX13_known_56 (by decide) ?_
          have k12392 : (0 : Int32).toInt = 0 := by decide
          exact t_iret hQ X hT (⟨(by decide), hfr, hrel, ⟨soz12369, spz12369, faz12369, qsoz12369, qspz12369, qfaz12369, (by omega), (by omega), (by omega), hstk, hspt, hkf⟩⟩) (Nat.le_of_ble_eq_true rfl) (Nat.le_of_ble_eq_true rfl) dX13_known_68
      · have w12393 := cv_ne (rfl : z12385.toInt = z12385.toInt) (rfl : p1.toInt = p1.toInt) c12386
        refine lv_aload_n hx hb dX13_known_42 rfl (lv_at hl 1 rfl) ?_
        refine lv_iconst (v := 2) hx hb dX13_known_43 (by decide) ?_
        refine t_cVv (n := 1) (C := RX13) (T := TX13) (N := 37) (As := [.int 2]) (rest := []) X hT (km10_X13_flaw l G tag L F hT.2.2.2 p0 2 x0 x1 x2 soz12369 spz12369 faz12369 m0 g0 (by decide) mx0 gx0 pf0 mx1 gx1 pf1 mx2 gx2 pf2 (by omega) qsoz12369 (by omega) qspz12369 (by omega) qfaz12369 hkf) m0 g0 rfl rfl qw_548 qw_549 qw_550 qw_5 qw_551 ⟨rfl, by decide +kernel, by decide +kernel, by decide +kernel⟩ ⟨Nat.le_of_ble_eq_true rfl, Nat.le_of_ble_eq_true rfl⟩ hl rfl rfl (Nat.le_of_ble_eq_true rfl) dX13_known_44 ⟨Nat.le_of_ble_eq_true rfl, Nat.le_of_ble_eq_true rfl⟩ (fun F H locs hT hz12394 => ?_)
        obtain ⟨yz12394, ⟨soz12394, spz12394, faz12394, qsoz12394, qspz12394, qfaz12394, rsoz12394, rspz12394, rfaz12394, stz12394, ptz12394, hkf, pxz12394_0⟩⟩ := hz12394
        have pf0 := (yz12394.1 _ 4 (Or.inr (by decide)) (Or.inr (by decide)) (Or.inr (by decide))).trans pf0
        have pf1 := (yz12394.1 _ 28 (Or.inr (by decide)) (Or.inr (by decide)) (Or.inr (by decide))).trans pf1
        have pf2 := (yz12394.1 _ 29 (Or.inr (by decide)) (Or.inr (by decide)) (Or.inr (by decide))).trans pf2
        have qspz12369 := (yz12394.1 _ 8 (Or.inr (by decide)) (Or.inr (by decide)) (Or.inr (by decide))).trans qspz12369
        have vz12385 := (yz12394.2 _ _ ).trans vz12385
        have hfr : (∀ b j : Nat, (tag b ≠ 46 ∨ j ≠ 9) → (tag b ≠ 46 ∨ j ≠ 13) → (tag b ≠ 46 ∨ j ≠ 14) → fld F b j = fld Fo b j) ∧ (∀ b j : Nat, elm F b j = elm Fo b j) := ⟨fun b j n46_9 n46_13 n46_14 => (yz12394.1 b j n46_9 n46_13 n46_14).trans (hfr.1 b j n46_9 n46_13 n46_14), fun b j  => (yz12394.2 b j ).trans (hfr.2 b j )⟩
        have hrel := msr_of (fun j => yz12394.2 _ j ) (fun j => yz12394.2 _ j ) hrel
        have hstk := STK.tr hstk stz12394
        have hspt := SPT.tr hspt ptz12394
        have k5z12394 : soz12394.toInt = 5 := stz12394 (by omega)
        refine lv_aload_n hx hb dX13_known_47 rfl (lv_at hl 1 rfl) ?_
        refine t_get (C := RX13) (T := TX13) (N := 37) X hT m0 g0 rfl rfl 9 (by decide) qw_478 inlX13 rfl dX13_known_48 (fun v12395 hv12395 ov12395 => ?_)
        obtain rfl : v12395 = .int soz12394 := hv12395.symm.trans qsoz12394
        refine lv_iconst (v := 5) hx hb dX13_known_51 (by decide) ?_
        refine lv_icmp_ne (tgt := 59) hx hb dX13_known_52 (by decide) (fun c12396 => ?_) (fun c12396 => ?_)
        · have w12397 := cv_ne (rfl : soz12394.toInt = soz12394.toInt) (by decide : (5 : Int32).toInt = 5) c12396
          exfalso
          omega
        · have w12398 := cv_eq (rfl : soz12394.toInt = soz12394.toInt) (by decide : (5 : Int32).toInt = 5) c12396
          refine lv_iconst (v := 0) hx hb dX13_known_55 (by decide) ?_
          refine lv_goto (tgt := 68) hx hb dX13_known_56 (by decide) ?_
          have k12399 : (0 : Int32).toInt = 0 := by decide
          exact t_iret hQ X hT (⟨(by decide), hfr, hrel, ⟨soz12394, spz12394, faz12394, qsoz12394, qspz12394, qfaz12394, (by omega), (by omega), (by omega), hstk, hspt, hkf⟩⟩) (Nat.le_of_ble_eq_true rfl) (Nat.le_of_ble_eq_true rfl) dX13_known_68
