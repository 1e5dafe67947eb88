set_option maxHeartbeats 4000000 in
set_option maxRecDepth 100000 in
theorem km30_X13_readKnown (l : Launch) (G : KG) (tag : Nat → Nat) (L : List Nat) (Fo : Nat → va_E) (ho : okT G ttC tag L Fo) (p0 : Nat) (p1 : Int32) (x0 : Nat) (x1 : Nat) (x2 : Nat) (x3 : Int32) (x4 : Int32) (x5 : Int32) (m0 : p0 ∈ L) (g0 : tag p0 = 46) (h1 : 1 ≤ p1.toInt ∧ p1.toInt ≤ 1) (mx0 : x0 ∈ L) (gx0 : tag x0 = 44) (pf0 : fld Fo p0 4 = .ref x0) (mx1 : x1 ∈ L) (gx1 : tag x1 = 35) (pf1 : fld Fo x0 28 = .ref x1) (mx2 : x2 ∈ L) (gx2 : tag x2 = 36) (pf2 : fld Fo x0 29 = .ref x2) (hx3 : 0 ≤ x3.toInt ∧ x3.toInt ≤ 5) (pf3 : fld Fo p0 9 = .int x3) (hx4 : 0 ≤ x4.toInt ∧ x4.toInt ≤ 1000) (pf4 : fld Fo p0 8 = .int x4) (hx5 : 0 ≤ x5.toInt ∧ x5.toInt ≤ 7) (pf5 : fld Fo p0 13 = .int x5) (hrel : MSR Fo x1 x2) (hkf : KF x3 x5) : TMi l yX13_readKnown cX13_readKnown 3 (some .int) { frames := 8, cells := 0, slots := 0, locals := 171 } G ttC tag L Fo [.ref p0, .int p1] (fun r F1 => (0 ≤ r.toInt ∧ r.toInt ≤ 3) ∧ ((∀ b j : Nat, (tag b ≠ 46 ∨ j ≠ 8) → (tag b ≠ 46 ∨ j ≠ 9) → (tag b ≠ 46 ∨ j ≠ 10) → (tag b ≠ 46 ∨ j ≠ 11) → (tag b ≠ 46 ∨ j ≠ 12) → (tag b ≠ 46 ∨ j ≠ 13) → (tag b ≠ 46 ∨ j ≠ 14) → (tag b ≠ 46 ∨ j ≠ 15) → fld F1 b j = fld Fo b j) ∧ (∀ b j : Nat, elm F1 b j = elm Fo b j)) ∧ (MSR F1 x1 x2) ∧ (∃ so sp fa : Int32, fld F1 p0 9 = .int so ∧ fld F1 p0 8 = .int sp ∧ fld F1 p0 13 = .int fa ∧ (0 ≤ so.toInt ∧ so.toInt ≤ 5) ∧ (0 ≤ sp.toInt ∧ sp.toInt ≤ 1000) ∧ (0 ≤ fa.toInt ∧ fa.toInt ≤ 7) ∧ STK x3 so ∧ SPT x3 x4 so sp ∧ KF so fa)) := by
  refine t_bodyi (y := yX13_readKnown) (cd := cX13_readKnown) (mL := 3) (rt := (some .int)) (rm := { frames := 8, cells := 0, slots := 0, locals := 171 }) (av := [.ref p0, .int p1]) (by decide) (Nat.le_of_ble_eq_true rfl) ho ?_
  intro p e s m args below meth c ls A Q hQ X hT hl
  have hx := X.1.1
  have hb := X.1.2.1
  have hl : lv_has ls 3 [(0, .ref p0), (1, .int p1)] := hl
  obtain ⟨F, hFo⟩ : ∃ F : Nat → va_E, F = Fo := ⟨_, rfl⟩
  rw [← hFo] at hT pf0 pf1 pf2 pf3 pf4 pf5 hrel
  have hfr : (∀ b j : Nat, (tag b ≠ 46 ∨ j ≠ 8) → (tag b ≠ 46 ∨ j ≠ 9) → (tag b ≠ 46 ∨ j ≠ 10) → (tag b ≠ 46 ∨ j ≠ 11) → (tag b ≠ 46 ∨ j ≠ 12) → (tag b ≠ 46 ∨ j ≠ 13) → (tag b ≠ 46 ∨ j ≠ 14) → (tag b ≠ 46 ∨ j ≠ 15) → fld F b j = fld Fo b j) ∧ (∀ b j : Nat, elm F b j = elm Fo b j) := by
    rw [hFo]
    exact ⟨by intros; rfl, by intros; rfl⟩
  have hstk : STK x3 x3 := STK.rf
  have hspt : SPT x3 x4 x3 x4 := SPT.rf
  refine lv_aload_n hx hb dX13_readKnown_0 rfl (lv_at hl 0 rfl) ?_
  refine lv_iload_n hx hb dX13_readKnown_1 rfl (lv_at hl 1 rfl) ?_
  refine t_cVi (n := 1) (C := RX13) (T := TX13) (N := 37) (As := [.int p1]) (rest := []) X hT (km29_X13_known l G tag L F hT.2.2.2 p0 p1 x0 x1 x2 x3 x4 x5 m0 g0 (by omega) mx0 gx0 pf0 mx1 gx1 pf1 mx2 gx2 pf2 (by omega) pf3 (by omega) pf4 (by omega) pf5 hrel hkf) m0 g0 rfl rfl qw_636 qw_637 qw_638 qw_5 qw_639 ⟨rfl, by decide +kernel, by decide +kernel, by decide +kernel⟩ ⟨Nat.le_of_ble_eq_true rfl, Nat.le_of_ble_eq_true rfl⟩ hl rfl rfl (Nat.le_of_ble_eq_true rfl) dX13_readKnown_2 ⟨Nat.le_of_ble_eq_true rfl, Nat.le_of_ble_eq_true rfl⟩ (fun z12245 F H locs hT hz12245 => ?_)
  obtain ⟨hz12245, yz12245, hrel, ⟨soz12245, spz12245, faz12245, qsoz12245, qspz12245, qfaz12245, rsoz12245, rspz12245, rfaz12245, stz12245, ptz12245, hkf⟩⟩ := hz12245
  have pf0 := (yz12245.1 _ 4 (Or.inr (by decide)) (Or.inr (by decide)) (Or.inr (by decide))).trans pf0
  have pf1 := (yz12245.1 _ 28 (Or.inr (by decide)) (Or.inr (by decide)) (Or.inr (by decide))).trans pf1
  have pf2 := (yz12245.1 _ 29 (Or.inr (by decide)) (Or.inr (by decide)) (Or.inr (by decide))).trans pf2
  have pf4 := (yz12245.1 _ 8 (Or.inr (by decide)) (Or.inr (by decide)) (Or.inr (by decide))).trans pf4
  have hfr : (∀ b j : Nat, (tag b ≠ 46 ∨ j ≠ 8) → (tag b ≠ 46 ∨ j ≠ 9) → (tag b ≠ 46 ∨ j ≠ 10) → (tag b ≠ 46 ∨ j ≠ 11) → (tag b ≠ 46 ∨ j ≠ 12) → (tag b ≠ 46 ∨ j ≠ 13) → (tag b ≠ 46 ∨ j ≠ 14) → (tag b ≠ 46 ∨ j ≠ 15) → fld F b j = fld Fo b j) ∧ (∀ b j : Nat, elm F b j = elm Fo b j) := ⟨fun b j n46_8 n46_9 n46_10 n46_11 n46_12 n46_13 n46_14 n46_15 => (yz12245.1 b j n46_9 n46_13 n46_14).trans (hfr.1 b j n46_8 n46_9 n46_10 n46_11 n46_12 n46_13 n46_14 n46_15), fun b j  => (yz12245.2 b j ).trans (hfr.2 b j )⟩
  have hstk := STK.tr hstk stz12245
  have hspt := SPT.tr hspt ptz12245
  refine lv_istore_n (lv' := [(2, .int z12245), (0, .ref p0), (1, .int p1)]) hx hb dX13_readKnown_5 rfl hl (by decide) rfl (fun ls hl => ?_)
  refine lv_aload_n hx hb dX13_readKnown_6 rfl (lv_at hl 1 rfl) ?_
  refine t_cVv (n := 0) (C := RX13) (T := TX13) (N := 37) (As := []) (rest := []) X hT (km14_X13_goesOn l G tag L F hT.2.2.2 p0 x0 x1 x2 soz12245 spz12245 faz12245 m0 g0 mx0 gx0 pf0 mx1 gx1 pf1 mx2 gx2 pf2 (by omega) qsoz12245 (by omega) qspz12245 (by omega) qfaz12245 hkf) m0 g0 rfl rfl qw_508 qw_509 qw_510 qw_5 qw_511 ⟨rfl, by decide +kernel, by decide +kernel, by decide +kernel⟩ ⟨Nat.le_of_ble_eq_true rfl, Nat.le_of_ble_eq_true rfl⟩ hl rfl rfl (Nat.le_of_ble_eq_true rfl) dX13_readKnown_7 ⟨Nat.le_of_ble_eq_true rfl, Nat.le_of_ble_eq_true rfl⟩ (fun F H locs hT hz12246 => ?_)
  obtain ⟨yz12246, ⟨soz12246, spz12246, faz12246, qsoz12246, qspz12246, qfaz12246, rsoz12246, rspz12246, rfaz12246, stz12246, ptz12246, hkf⟩⟩ := hz12246
  have pf0 := (yz12246.1 _ 4 (Or.inr (by decide)) (Or.inr (by decide)) (Or.inr (by decide)) (Or.inr (by decide)) (Or.inr (by decide)) (Or.inr (by decide))).trans pf0
  have pf1 := (yz12246.1 _ 28 (Or.inr (by decide)) (Or.inr (by decide)) (Or.inr (by decide)) (Or.inr (by decide)) (Or.inr (by decide)) (Or.inr (by decide))).trans pf1
  have pf2 := (yz12246.1 _ 29 (Or.inr (by decide)) (Or.inr (by decide)) (Or.inr (by decide)) (Or.inr (by decide)) (Or.inr (by decide)) (Or.inr (by decide))).trans pf2
  have qfaz12245 := (yz12246.1 _ 13 (Or.inr (by decide)) (Or.inr (by decide)) (Or.inr (by decide)) (Or.inr (by decide)) (Or.inr (by decide)) (Or.inr (by decide))).trans qfaz12245
  have hfr : (∀ b j : Nat, (tag b ≠ 46 ∨ j ≠ 8) → (tag b ≠ 46 ∨ j ≠ 9) → (tag b ≠ 46 ∨ j ≠ 10) → (tag b ≠ 46 ∨ j ≠ 11) → (tag b ≠ 46 ∨ j ≠ 12) → (tag b ≠ 46 ∨ j ≠ 13) → (tag b ≠ 46 ∨ j ≠ 14) → (tag b ≠ 46 ∨ j ≠ 15) → fld F b j = fld Fo b j) ∧ (∀ b j : Nat, elm F b j = elm Fo b j) := ⟨fun b j n46_8 n46_9 n46_10 n46_11 n46_12 n46_13 n46_14 n46_15 => (yz12246.1 b j n46_8 n46_9 n46_10 n46_11 n46_12 n46_15).trans (hfr.1 b j n46_8 n46_9 n46_10 n46_11 n46_12 n46_13 n46_14 n46_15), fun b j  => (yz12246.2 b j ).trans (hfr.2 b j )⟩
  have hrel := msr_of (fun j => yz12246.2 _ j ) (fun j => yz12246.2 _ j ) hrel
  have hstk := STK.tr hstk stz12246
  have hspt := SPT.tr hspt ptz12246
  refine lv_iload_n hx hb dX13_readKnown_10 rfl (lv_at hl 0 rfl) ?_
  exact t_iret hQ X hT (⟨(by omega), hfr, hrel, ⟨soz12246, spz12246, faz12246, qsoz12246, qspz12246, qfaz12246, (by omega), (by omega), (by omega), hstk, hspt, hkf⟩⟩) (Nat.le_of_ble_eq_true rfl) (Nat.le_of_ble_eq_true rfl) dX13_readKnown_11
set_option maxHeartbeats 4000000 in
set_option maxRecDepth 100000 in
theorem km31_X13_bounded (l : Launch) (G : KG) (tag : Nat → Nat) (L : List Nat) (Fo : Nat → va_E) (ho : okT G ttC tag L Fo) (p0 : Nat) (p1 : Int32) (p2 : Int32) (x0 : Nat) (x1 : Nat) (x2 : Nat) (x3 : Int32) (x4 : Int32) (x5 : Int32) (m0 : p0 ∈ L) (g0 : tag p0 = 46) (h1 : 0 ≤ p1.toInt ∧ p1.toInt ≤ 0) (h2 : 0 ≤ p2.toInt ∧ p2.toInt ≤ 6) (mx0 : x0 ∈ L) (gx0 : tag x0 = 44) (pf0 : fld Fo p0 4 = .ref x0) (mx1 : x1 ∈ L) (gx1 : tag x1 = 35) (pf1 : fld Fo x0 28 = .ref x1) (mx2 : x2 ∈ L) (gx2 : tag x2 = 36) (pf2 : fld Fo x0 29 = .ref x2) (hx3 : 0 ≤ x3.toInt ∧ x3.toInt ≤ 5) (pf3 : fld Fo p0 9 = .int x3) (hx4 : 0 ≤ x4.toInt ∧ x4.toInt ≤ 1000) (pf4 : fld Fo p0 8 = .int x4) (hx5 : 0 ≤ x5.toInt ∧ x5.toInt ≤ 7) (pf5 : fld Fo p0 13 = .int x5) (hkf : KF x3 x5) : TMi l yX13_bounded cX13_bounded 3 (some .int) { frames := 1, cells := 0, slots := 0, locals := 22 } G ttC tag L Fo [.ref p0, .int p1, .int p2] (fun r F1 => (0 ≤ r.toInt ∧ r.toInt ≤ 6) ∧ ((∀ b j : Nat, (tag b ≠ 46 ∨ j ≠ 9) → (tag b ≠ 46 ∨ j ≠ 13) → (tag b ≠ 46 ∨ j ≠ 14) → fld F1 b j = fld Fo b j) ∧ (∀ b j : Nat, elm F1 b j = elm Fo b j)) ∧ (∃ so sp fa : Int32, fld F1 p0 9 = .int so ∧ fld F1 p0 8 = .int sp ∧ fld F1 p0 13 = .int fa ∧ (0 ≤ so.toInt ∧ so.toInt ≤ 5) ∧ (0 ≤ sp.toInt ∧ sp.toInt ≤ 1000) ∧ (0 ≤ fa.toInt ∧ fa.toInt ≤ 7) ∧ STK x3 so ∧ SPT x3 x4 so sp ∧ KF so fa)) := by
  refine t_bodyi (y := yX13_bounded) (cd := cX13_bounded) (mL := 3) (rt := (some .int)) (rm := { frames := 1, cells := 0, slots := 0, locals := 22 }) (av := [.ref p0, .int p1, .int p2]) (by decide) (Nat.le_of_ble_eq_true rfl) ho ?_
  intro p e s m args below meth c ls A Q hQ X hT hl
  have hx := X.1.1
  have hb := X.1.2.1
  have hl : lv_has ls 3 [(0, .ref p0), (1, .int p1), (2, .int p2)] := hl
  obtain ⟨F, hFo⟩ : ∃ F : Nat → va_E, F = Fo := ⟨_, rfl⟩
  rw [← hFo] at hT pf0 pf1 pf2 pf3 pf4 pf5
  have hfr : (∀ b j : Nat, (tag b ≠ 46 ∨ j ≠ 9) → (tag b ≠ 46 ∨ j ≠ 13) → (tag b ≠ 46 ∨ j ≠ 14) → fld F b j = fld Fo b j) ∧ (∀ b j : Nat, elm F b j = elm Fo b j) := by
    rw [hFo]
    exact ⟨by intros; rfl, by intros; rfl⟩
  have hstk : STK x3 x3 := STK.rf
  have hspt : SPT x3 x4 x3 x4 := SPT.rf
  refine lv_aload_n hx hb dX13_bounded_0 rfl (lv_at hl 0 rfl) ?_
  refine t_get (C := RX13) (T := TX13) (N := 37) X hT m0 g0 rfl rfl 9 (by decide) qw_478 inlX13 rfl dX13_bounded_1 (fun v12544 hv12544 ov12544 => ?_)
  obtain rfl : v12544 = .int x3 := hv12544.symm.trans pf3
  refine lv_iconst (v := 3) hx hb dX13_bounded_4 (by decide) ?_
  refine lv_icmp_eq (tgt := 16) hx hb dX13_bounded_5 (by decide) (fun c12545 => ?_) (fun c12545 => ?_)
  · have w12546 := cv_eq (rfl : x3.toInt = x3.toInt) (by decide : (3 : Int32).toInt = 3) c12545
    refine lv_aload_n hx hb dX13_bounded_16 rfl (lv_at hl 0 rfl) ?_
    refine t_get (C := RX13) (T := TX13) (N := 37) X hT m0 g0 rfl rfl 12 (by decide) qw_516 inlX13 rfl dX13_bounded_17 (fun v12547 hv12547 ov12547 => ?_)
    obtain ⟨z12548, rfl, rz12548⟩ := okV_i ov12547
    refine lv_iload_n hx hb dX13_bounded_20 rfl (lv_at hl 1 rfl) ?_
    refine lv_iload_n hx hb dX13_bounded_21 rfl (lv_at hl 2 rfl) ?_
    refine t_cSi (n := 3) (As := [.int z12548, .int p1, .int p2]) (rest := []) X hT (km19_X13_within l G tag L F hT.2.2.2 z12548 p1 p2 ) qw_568 qw_569 qw_5 qw_570 ⟨by decide +kernel, by decide +kernel, by decide +kernel⟩ ⟨Nat.le_of_ble_eq_true rfl, Nat.le_of_ble_eq_true rfl⟩ hl rfl rfl (Nat.le_of_ble_eq_true rfl) dX13_bounded_22 ⟨Nat.le_of_ble_eq_true rfl, Nat.le_of_ble_eq_true rfl⟩ (fun z12549 F9 H locs hT hz12549 => ?_)
    obtain ⟨fz12549, hz12549, xz12549_0⟩ := hz12549
    rw [fz12549] at hT
    refine lv_if_ne (tgt := 33) hx hb dX13_bounded_25 (by decide) (fun c12550 => ?_) (fun c12550 => ?_)
    · have w12551 := cv_ne (rfl : z12549.toInt = z12549.toInt) (by decide : (0 : Int32).toInt = 0) c12550
      have w12552 := xz12549_0 (by omega)
      refine lv_aload_n hx hb dX13_bounded_33 rfl (lv_at hl 0 rfl) ?_
      refine t_get (C := RX13) (T := TX13) (N := 37) X hT m0 g0 rfl rfl 9 (by decide) qw_478 inlX13 rfl dX13_bounded_34 (fun v12553 hv12553 ov12553 => ?_)
      obtain rfl : v12553 = .int x3 := hv12553.symm.trans pf3
      refine lv_iconst (v := 5) hx hb dX13_bounded_37 (by decide) ?_
      refine lv_icmp_ne (tgt := 45) hx hb dX13_bounded_38 (by decide) (fun c12554 => ?_) (fun c12554 => ?_)
      · have w12555 := cv_ne (rfl : x3.toInt = x3.toInt) (by decide : (5 : Int32).toInt = 5) c12554
        refine lv_aload_n hx hb dX13_bounded_45 rfl (lv_at hl 0 rfl) ?_
        refine t_get (C := RX13) (T := TX13) (N := 37) X hT m0 g0 rfl rfl 12 (by decide) qw_516 inlX13 rfl dX13_bounded_46 (fun v12556 hv12556 ov12556 => ?_)
        obtain rfl : v12556 = .int z12548 := hv12556.symm.trans hv12547
        exact t_iret hQ X hT (⟨(by omega), hfr, ⟨x3, x4, x5, pf3, pf4, pf5, (by omega), (by omega), (by omega), hstk, hspt, hkf⟩⟩) (Nat.le_of_ble_eq_true rfl) (Nat.le_of_ble_eq_true rfl) dX13_bounded_49
      · have w12557 := cv_eq (rfl : x3.toInt = x3.toInt) (by decide : (5 : Int32).toInt = 5) c12554
        exfalso
        omega
    · have w12558 := cv_eq (rfl : z12549.toInt = z12549.toInt) (by decide : (0 : Int32).toInt = 0) c12550
      refine lv_aload_n hx hb dX13_bounded_28 rfl (lv_at hl 0 rfl) ?_
      refine lv_iconst (v := 4) hx hb dX13_bounded_29 (by decide) ?_
      refine t_cVv (n := 1) (C := RX13) (T := TX13) (N := 37) (As := [.int 4]) (rest := []) X hT (km10_X13_flaw l G tag L F hT.2.2.2 p0 4 x0 x1 x2 x3 x4 x5 m0 g0 (by decide) mx0 gx0 pf0 mx1 gx1 pf1 mx2 gx2 pf2 (by omega) pf3 (by omega) pf4 (by omega) pf5 hkf) m0 g0 rfl rfl qw_548 qw_549 qw_550 qw_5 qw_551 ⟨rfl, by decide +kernel, by decide +kernel, by decide +kernel⟩ ⟨Nat.le_of_ble_eq_true rfl, Nat.le_of_ble_eq_true rfl⟩ hl rfl rfl (Nat.le_of_ble_eq_true rfl) dX13_bounded_30 ⟨Nat.le_of_ble_eq_true rfl, Nat.le_of_ble_eq_true rfl⟩ (fun F H locs hT hz12559 => ?_)
      obtain ⟨yz12559, ⟨soz12559, spz12559, faz12559, qsoz12559, qspz12559, qfaz12559, rsoz12559, rspz12559, rfaz12559, stz12559, ptz12559, hkf, pxz12559_0⟩⟩ := hz12559
      have pf0 := (yz12559.1 _ 4 (Or.inr (by decide)) (Or.inr (by decide)) (Or.inr (by decide))).trans pf0
      have pf1 := (yz12559.1 _ 28 (Or.inr (by decide)) (Or.inr (by decide)) (Or.inr (by decide))).trans pf1
      have pf2 := (yz12559.1 _ 29 (Or.inr (by decide)) (Or.inr (by decide)) (Or.inr (by decide))).trans pf2
      have pf4 := (yz12559.1 _ 8 (Or.inr (by decide)) (Or.inr (by decide)) (Or.inr (by decide))).trans pf4
      have hv12547 := (yz12559.1 _ 12 (Or.inr (by decide)) (Or.inr (by decide)) (Or.inr (by decide))).trans hv12547
      have hfr : (∀ b j : Nat, (tag b ≠ 46 ∨ j ≠ 9) → (tag b ≠ 46 ∨ j ≠ 13) → (tag b ≠ 46 ∨ j ≠ 14) → fld F b j = fld Fo b j) ∧ (∀ b j : Nat, elm F b j = elm Fo b j) := ⟨fun b j n46_9 n46_13 n46_14 => (yz12559.1 b j n46_9 n46_13 n46_14).trans (hfr.1 b j n46_9 n46_13 n46_14), fun b j  => (yz12559.2 b j ).trans (hfr.2 b j )⟩
      have hstk := STK.tr hstk stz12559
      have hspt := SPT.tr hspt ptz12559
      refine lv_aload_n hx hb dX13_bounded_33 rfl (lv_at hl 0 rfl) ?_
      refine t_get (C := RX13) (T := TX13) (N := 37) X hT m0 g0 rfl rfl 9 (by decide) qw_478 inlX13 rfl dX13_bounded_34 (fun v12560 hv12560 ov12560 => ?_)
      obtain rfl : v12560 = .int soz12559 := hv12560.symm.trans qsoz12559
      refine lv_iconst (v := 5) hx hb dX13_bounded_37 (by decide) ?_
      refine lv_icmp_ne (tgt := 45) hx hb dX13_bounded_38 (by decide) (fun c12561 => ?_) (fun c12561 => ?_)
      · have w12562 := cv_ne (rfl : soz12559.toInt = soz12559.toInt) (by decide : (5 : Int32).toInt = 5) c12561
        exfalso
        omega
      · have w12563 := cv_eq (rfl : soz12559.toInt = soz12559.toInt) (by decide : (5 : Int32).toInt = 5) c12561
        refine lv_iload_n hx hb dX13_bounded_41 rfl (lv_at hl 1 rfl) ?_
        refine lv_goto (tgt := 49) hx hb dX13_bounded_42 (by decide) ?_
        exact t_iret hQ X hT (⟨(by omega), hfr, ⟨soz12559, spz12559, faz12559, qsoz12559, qspz12559, qfaz12559, (by omega), (by omega), (by omega), hstk, hspt, hkf⟩⟩) (Nat.le_of_ble_eq_true rfl) (Nat.le_of_ble_eq_true rfl) dX13_bounded_49
  · have w12564 := cv_ne (rfl : x3.toInt = x3.toInt) (by decide : (3 : Int32).toInt = 3) c12545
    refine lv_aload_n hx hb dX13_bounded_8 rfl (lv_at hl 0 rfl) ?_
    refine lv_iconst (v := 1) hx hb dX13_bounded_9 (by decide) ?_
    refine t_cVv (n := 1) (C := RX13) (T := TX13) (N := 37) (As := [.int 1]) (rest := []) X hT (km10_X13_flaw l G tag L F hT.2.2.2 p0 1 x0 x1 x2 x3 x4 x5 m0 g0 (by decide) mx0 gx0 pf0 mx1 gx1 pf1 mx2 gx2 pf2 (by omega) pf3 (by omega) pf4 (by omega) pf5 hkf) m0 g0 rfl rfl qw_548 qw_549 qw_550 qw_5 qw_551 ⟨rfl, by decide +kernel, by decide +kernel, by decide +kernel⟩ ⟨Nat.le_of_ble_eq_true rfl, Nat.le_of_ble_eq_true rfl⟩ hl rfl rfl (Nat.le_of_ble_eq_true rfl) dX13_bounded_10 ⟨Nat.le_of_ble_eq_true rfl, Nat.le_of_ble_eq_true rfl⟩ (fun F H locs hT hz12565 => ?_)
    obtain ⟨yz12565, ⟨soz12565, spz12565, faz12565, qsoz12565, qspz12565, qfaz12565, rsoz12565, rspz12565, rfaz12565, stz12565, ptz12565, hkf, pxz12565_0⟩⟩ := hz12565
    have pf0 := (yz12565.1 _ 4 (Or.inr (by decide)) (Or.inr (by decide)) (Or.inr (by decide))).trans pf0
    have pf1 := (yz12565.1 _ 28 (Or.inr (by decide)) (Or.inr (by decide)) (Or.inr (by decide))).trans pf1
    have pf2 := (yz12565.1 _ 29 (Or.inr (by decide)) (Or.inr (by decide)) (Or.inr (by decide))).trans pf2
    have pf4 := (yz12565.1 _ 8 (Or.inr (by decide)) (Or.inr (by decide)) (Or.inr (by decide))).trans pf4
    have hfr : (∀ b j : Nat, (tag b ≠ 46 ∨ j ≠ 9) → (tag b ≠ 46 ∨ j ≠ 13) → (tag b ≠ 46 ∨ j ≠ 14) → fld F b j = fld Fo b j) ∧ (∀ b j : Nat, elm F b j = elm Fo b j) := ⟨fun b j n46_9 n46_13 n46_14 => (yz12565.1 b j n46_9 n46_13 n46_14).trans (hfr.1 b j n46_9 n46_13 n46_14), fun b j  => (yz12565.2 b j ).trans (hfr.2 b j )⟩
    have hstk := STK.tr hstk stz12565
    have hspt := SPT.tr hspt ptz12565
    refine lv_goto (tgt := 33) hx hb dX13_bounded_13 (by decide) ?_
    refine lv_aload_n hx hb dX13_bounded_33 rfl (lv_at hl 0 rfl) ?_
    refine t_get (C := RX13) (T := TX13) (N := 37) X hT m0 g0 rfl rfl 9 (by decide) qw_478 inlX13 rfl dX13_bounded_34 (fun v12566 hv12566 ov12566 => ?_)
    obtain rfl : v12566 = .int soz12565 := hv12566.symm.trans qsoz12565
    refine lv_iconst (v := 5) hx hb dX13_bounded_37 (by decide) ?_
    refine lv_icmp_ne (tgt := 45) hx hb dX13_bounded_38 (by decide) (fun c12567 => ?_) (fun c12567 => ?_)
    · have w12568 := cv_ne (rfl : soz12565.toInt = soz12565.toInt) (by decide : (5 : Int32).toInt = 5) c12567
      exfalso
      omega
    · have w12569 := cv_eq (rfl : soz12565.toInt = soz12565.toInt) (by decide : (5 : Int32).toInt = 5) c12567
      refine lv_iload_n hx hb dX13_bounded_41 rfl (lv_at hl 1 rfl) ?_
      refine lv_goto (tgt := 49) hx hb dX13_bounded_42 (by decide) ?_
      exact t_iret hQ X hT (⟨(by omega), hfr, ⟨soz12565, spz12565, faz12565, qsoz12565, qspz12565, qfaz12565, (by omega), (by omega), (by omega), hstk, hspt, hkf⟩⟩) (Nat.le_of_ble_eq_true rfl) (Nat.le_of_ble_eq_true rfl) dX13_bounded_49
set_option maxHeartbeats 4000000 in
set_option maxRecDepth 100000 in
theorem km32_X13_readWhole (l : Launch) (G : KG) (tag : Nat → Nat) (L : List Nat) (Fo : Nat → va_E) (ho : okT G ttC tag L Fo) (p0 : Nat) (p1 : Int32) (p2 : Int32) (x0 : Nat) (x1 : Nat) (x2 : Nat) (x3 : Int32) (x4 : Int32) (x5 : Int32) (m0 : p0 ∈ L) (g0 : tag p0 = 46) (h1 : 0 ≤ p1.toInt ∧ p1.toInt ≤ 0) (h2 : 0 ≤ p2.toInt ∧ p2.toInt ≤ 6) (mx0 : x0 ∈ L) (gx0 : tag x0 = 44) (pf0 : fld Fo p0 4 = .ref x0) (mx1 : x1 ∈ L) (gx1 : tag x1 = 35) (pf1 : fld Fo x0 28 = .ref x1) (mx2 : x2 ∈ L) (gx2 : tag x2 = 36) (pf2 : fld Fo x0 29 = .ref x2) (hx3 : 0 ≤ x3.toInt ∧ x3.toInt ≤ 5) (pf3 : fld Fo p0 9 = .int x3) (hx4 : 0 ≤ x4.toInt ∧ x4.toInt ≤ 1000) (pf4 : fld Fo p0 8 = .int x4) (hx5 : 0 ≤ x5.toInt ∧ x5.toInt ≤ 7) (pf5 : fld Fo p0 13 = .int x5) (hkf : KF x3 x5) : TMi l yX13_readWhole cX13_readWhole 4 (some .int) { frames := 2, cells := 0, slots := 0, locals := 44 } G ttC tag L Fo [.ref p0, .int p1, .int p2] (fun r F1 => (0 ≤ r.toInt ∧ r.toInt ≤ 6) ∧ ((∀ b j : Nat, (tag b ≠ 46 ∨ j ≠ 8) → (tag b ≠ 46 ∨ j ≠ 9) → (tag b ≠ 46 ∨ j ≠ 10) → (tag b ≠ 46 ∨ j ≠ 11) → (tag b ≠ 46 ∨ j ≠ 12) → (tag b ≠ 46 ∨ j ≠ 13) → (tag b ≠ 46 ∨ j ≠ 14) → (tag b ≠ 46 ∨ j ≠ 15) → fld F1 b j = fld Fo b j) ∧ (∀ b j : Nat, elm F1 b j = elm Fo b j)) ∧ (∃ so sp fa : Int32, fld F1 p0 9 = .int so ∧ fld F1 p0 8 = .int sp ∧ fld F1 p0 13 = .int fa ∧ (0 ≤ so.toInt ∧ so.toInt ≤ 5) ∧ (0 ≤ sp.toInt ∧ sp.toInt ≤ 1000) ∧ (0 ≤ fa.toInt ∧ fa.toInt ≤ 7) ∧ STK x3 so ∧ SPT x3 x4 so sp ∧ KF so fa)) := by
  refine t_bodyi (y := yX13_readWhole) (cd := cX13_readWhole) (mL := 4) (rt := (some .int)) (rm := { frames := 2, cells := 0, slots := 0, locals := 44 }) (av := [.ref p0, .int p1, .int p2]) (by decide) (Nat.le_of_ble_eq_true rfl) ho ?_
  intro p e s m args below meth c ls A Q hQ X hT hl
  have hx := X.1.1
  have hb := X.1.2.1
  have hl : lv_has ls 4 [(0, .ref p0), (1, .int p1), (2, .int p2)] := hl
  obtain ⟨F, hFo⟩ : ∃ F : Nat → va_E, F = Fo := ⟨_, rfl⟩
  rw [← hFo] at hT pf0 pf1 pf2 pf3 pf4 pf5
  have hfr : (∀ b j : Nat, (tag b ≠ 46 ∨ j ≠ 8) → (tag b ≠ 46 ∨ j ≠ 9) → (tag b ≠ 46 ∨ j ≠ 10) → (tag b ≠ 46 ∨ j ≠ 11) → (tag b ≠ 46 ∨ j ≠ 12) → (tag b ≠ 46 ∨ j ≠ 13) → (tag b ≠ 46 ∨ j ≠ 14) → (tag b ≠ 46 ∨ j ≠ 15) → fld F b j = fld Fo b j) ∧ (∀ b j : Nat, elm F b j = elm Fo b j) := by
    rw [hFo]
    exact ⟨by intros; rfl, by intros; rfl⟩
  have hstk : STK x3 x3 := STK.rf
  have hspt : SPT x3 x4 x3 x4 := SPT.rf
  refine lv_aload_n hx hb dX13_readWhole_0 rfl (lv_at hl 0 rfl) ?_
  refine lv_iload_n hx hb dX13_readWhole_1 rfl (lv_at hl 1 rfl) ?_
  refine lv_iload_n hx hb dX13_readWhole_2 rfl (lv_at hl 2 rfl) ?_
  refine t_cVi (n := 2) (C := RX13) (T := TX13) (N := 37) (As := [.int p1, .int p2]) (rest := []) X hT (km31_X13_bounded l G tag L F hT.2.2.2 p0 p1 p2 x0 x1 x2 x3 x4 x5 m0 g0 (by omega) (by omega) mx0 gx0 pf0 mx1 gx1 pf1 mx2 gx2 pf2 (by omega) pf3 (by omega) pf4 (by omega) pf5 hkf) m0 g0 rfl rfl qw_564 qw_565 qw_566 qw_5 qw_567 ⟨rfl, by decide +kernel, by decide +kernel, by decide +kernel⟩ ⟨Nat.le_of_ble_eq_true rfl, Nat.le_of_ble_eq_true rfl⟩ hl rfl rfl (Nat.le_of_ble_eq_true rfl) dX13_readWhole_3 ⟨Nat.le_of_ble_eq_true rfl, Nat.le_of_ble_eq_true rfl⟩ (fun z12592 F H locs hT hz12592 => ?_)
  obtain ⟨hz12592, yz12592, ⟨soz12592, spz12592, faz12592, qsoz12592, qspz12592, qfaz12592, rsoz12592, rspz12592, rfaz12592, stz12592, ptz12592, hkf⟩⟩ := hz12592
  have pf0 := (yz12592.1 _ 4 (Or.inr (by decide)) (Or.inr (by decide)) (Or.inr (by decide))).trans pf0
  have pf1 := (yz12592.1 _ 28 (Or.inr (by decide)) (Or.inr (by decide)) (Or.inr (by decide))).trans pf1
  have pf2 := (yz12592.1 _ 29 (Or.inr (by decide)) (Or.inr (by decide)) (Or.inr (by decide))).trans pf2
  have pf4 := (yz12592.1 _ 8 (Or.inr (by decide)) (Or.inr (by decide)) (Or.inr (by decide))).trans pf4
  have hfr : (∀ b j : Nat, (tag b ≠ 46 ∨ j ≠ 8) → (tag b ≠ 46 ∨ j ≠ 9) → (tag b ≠ 46 ∨ j ≠ 10) → (tag b ≠ 46 ∨ j ≠ 11) → (tag b ≠ 46 ∨ j ≠ 12) → (tag b ≠ 46 ∨ j ≠ 13) → (tag b ≠ 46 ∨ j ≠ 14) → (tag b ≠ 46 ∨ j ≠ 15) → fld F b j = fld Fo b j) ∧ (∀ b j : Nat, elm F b j = elm Fo b j) := ⟨fun b j n46_8 n46_9 n46_10 n46_11 n46_12 n46_13 n46_14 n46_15 => (yz12592.1 b j n46_9 n46_13 n46_14).trans (hfr.1 b j n46_8 n46_9 n46_10 n46_11 n46_12 n46_13 n46_14 n46_15), fun b j  => (yz12592.2 b j ).trans (hfr.2 b j )⟩
  have hstk := STK.tr hstk stz12592
  have hspt := SPT.tr hspt ptz12592
  refine lv_istore_n (lv' := [(3, .int z12592), (0, .ref p0), (1, .int p1), (2, .int p2)]) hx hb dX13_readWhole_6 rfl hl (by decide) rfl (fun ls hl => ?_)
  refine lv_aload_n hx hb dX13_readWhole_7 rfl (lv_at hl 1 rfl) ?_
  refine t_cVv (n := 0) (C := RX13) (T := TX13) (N := 37) (As := []) (rest := []) X hT (km14_X13_goesOn l G tag L F hT.2.2.2 p0 x0 x1 x2 soz12592 spz12592 faz12592 m0 g0 mx0 gx0 pf0 mx1 gx1 pf1 mx2 gx2 pf2 (by omega) qsoz12592 (by omega) qspz12592 (by omega) qfaz12592 hkf) m0 g0 rfl rfl qw_508 qw_509 qw_510 qw_5 qw_511 ⟨rfl, by decide +kernel, by decide +kernel, by decide +kernel⟩ ⟨Nat.le_of_ble_eq_true rfl, Nat.le_of_ble_eq_true rfl⟩ hl rfl rfl (Nat.le_of_ble_eq_true rfl) dX13_readWhole_8 ⟨Nat.le_of_ble_eq_true rfl, Nat.le_of_ble_eq_true rfl⟩ (fun F H locs hT hz12593 => ?_)
  obtain ⟨yz12593, ⟨soz12593, spz12593, faz12593, qsoz12593, qspz12593, qfaz12593, rsoz12593, rspz12593, rfaz12593, stz12593, ptz12593, hkf⟩⟩ := hz12593
  have pf0 := (yz12593.1 _ 4 (Or.inr (by decide)) (Or.inr (by decide)) (Or.inr (by decide)) (Or.inr (by decide)) (Or.inr (by decide)) (Or.inr (by decide))).trans pf0
  have pf1 := (yz12593.1 _ 28 (Or.inr (by decide)) (Or.inr (by decide)) (Or.inr (by decide)) (Or.inr (by decide)) (Or.inr (by decide)) (Or.inr (by decide))).trans pf1
  have pf2 := (yz12593.1 _ 29 (Or.inr (by decide)) (Or.inr (by decide)) (Or.inr (by decide)) (Or.inr (by decide)) (Or.inr (by decide)) (Or.inr (by decide))).trans pf2
  have qfaz12592 := (yz12593.1 _ 13 (Or.inr (by decide)) (Or.inr (by decide)) (Or.inr (by decide)) (Or.inr (by decide)) (Or.inr (by decide)) (Or.inr (by decide))).trans qfaz12592
  have hfr : (∀ b j : Nat, (tag b ≠ 46 ∨ j ≠ 8) → (tag b ≠ 46 ∨ j ≠ 9) → (tag b ≠ 46 ∨ j ≠ 10) → (tag b ≠ 46 ∨ j ≠ 11) → (tag b ≠ 46 ∨ j ≠ 12) → (tag b ≠ 46 ∨ j ≠ 13) → (tag b ≠ 46 ∨ j ≠ 14) → (tag b ≠ 46 ∨ j ≠ 15) → fld F b j = fld Fo b j) ∧ (∀ b j : Nat, elm F b j = elm Fo b j) := ⟨fun b j n46_8 n46_9 n46_10 n46_11 n46_12 n46_13 n46_14 n46_15 => (yz12593.1 b j n46_8 n46_9 n46_10 n46_11 n46_12 n46_15).trans (hfr.1 b j n46_8 n46_9 n46_10 n46_11 n46_12 n46_13 n46_14 n46_15), fun b j  => (yz12593.2 b j ).trans (hfr.2 b j )⟩
  have hstk := STK.tr hstk stz12593
  have hspt := SPT.tr hspt ptz12593
  refine lv_iload_n hx hb dX13_readWhole_11 rfl (lv_at hl 0 rfl) ?_
  exact t_iret hQ X hT (⟨(by omega), hfr, ⟨soz12593, spz12593, faz12593, qsoz12593, qspz12593, qfaz12593, (by omega), (by omega), (by omega), hstk, hspt, hkf⟩⟩) (Nat.le_of_ble_eq_true rfl) (Nat.le_of_ble_eq_true rfl) dX13_readWhole_12
set_option maxHeartbeats 4000000 in
set_option maxRecDepth 100000 in
theorem km33_X13_names (l : Launch) (G : KG) (tag : Nat → Nat) (L : List Nat) (Fo : Nat → va_E) (ho : okT G ttC tag L Fo) (p0 : Nat) (p1 : Int64) (p2 : Int32) (p3 : Int32) (x0 : Nat) (x1 : Nat) (x2 : Nat) (x3 : Int32) (m0 : p0 ∈ L) (g0 : tag p0 = 46) (h2 : 2 ≤ p2.toInt ∧ p2.toInt ≤ 2) (h3 : 0 ≤ p3.toInt ∧ p3.toInt ≤ 5) (mx0 : x0 ∈ L) (gx0 : tag x0 = 44) (pf0 : fld Fo p0 4 = .ref x0) (mx1 : x1 ∈ L) (gx1 : tag x1 = 35) (pf1 : fld Fo x0 28 = .ref x1) (mx2 : x2 ∈ L) (gx2 : tag x2 = 36) (pf2 : fld Fo x0 29 = .ref x2) (hx3 : 0 ≤ x3.toInt ∧ x3.toInt ≤ 31) (pf3 : fld Fo x0 12 = .int x3) (hrel : MSR Fo x1 x2) : TMv l yX13_names cX13_names 5 { frames := 0, cells := 0, slots := 0, locals := 0 } G ttC tag L Fo [.ref p0, .long p1, .int p2, .int p3] (fun F1 => ((∀ b j : Nat, (tag b ≠ 44 ∨ j ≠ 12) → fld F1 b j = fld Fo b j) ∧ (∀ b j : Nat, tag b ≠ 34 → tag b ≠ 35 → tag b ≠ 36 → elm F1 b j = elm Fo b j)) ∧ (MSR F1 x1 x2) ∧ (∃ z : Int32, fld F1 x0 12 = .int z ∧ z.toInt = x3.toInt + 1)) := by
  refine t_bodyv (y := yX13_names) (cd := cX13_names) (mL := 5) (rm := { frames := 0, cells := 0, slots := 0, locals := 0 }) (av := [.ref p0, .long p1, .int p2, .int p3]) (by decide) (Nat.le_of_ble_eq_true rfl) ho ?_
  intro p e s m args below meth c ls A Q hQ X hT hl
  have hx := X.1.1
  have hb := X.1.2.1
  have hl : lv_has ls 5 [(0, .ref p0), (1, .long p1), (3, .int p2), (4, .int p3)] := hl
  obtain ⟨F, hFo⟩ : ∃ F : Nat → va_E, F = Fo := ⟨_, rfl⟩
  rw [← hFo] at hT pf0 pf1 pf2 pf3 hrel
  have hfr : (∀ b j : Nat, (tag b ≠ 44 ∨ j ≠ 12) → fld F b j = fld Fo b j) ∧ (∀ b j : Nat, tag b ≠ 34 → tag b ≠ 35 → tag b ≠ 36 → elm F b j = elm Fo b j) := by
    rw [hFo]
    exact ⟨by intros; rfl, by intros; rfl⟩
  refine lv_aload_n hx hb dX13_names_0 rfl (lv_at hl 0 rfl) ?_
  refine t_get (C := RX13) (T := TX13) (N := 37) X hT m0 g0 rfl rfl 4 (by decide) qw_477 inlX13 rfl dX13_names_1 (fun v12823 hv12823 ov12823 => ?_)
  obtain rfl : v12823 = .ref x0 := hv12823.symm.trans pf0
  refine t_getN (C := RX12) (T := TX12) (N := 31) X hT mx0 gx0 rfl rfl 27 (by decide) (List.mem_of_getElem? (i := 31) rfl) inlX12 rfl dX13_names_4 (fun v12824 hv12824 ov12824 => ?_)
  obtain ⟨b12825, rfl, mb12825, gb12825⟩ := okV_r ov12824
  have gb12825 : tag b12825 = 34 := tg_of gb12825
  refine lv_aload_n hx hb dX13_names_7 rfl (lv_at hl 0 rfl) ?_
  refine t_get (C := RX13) (T := TX13) (N := 37) X hT m0 g0 rfl rfl 4 (by decide) qw_477 inlX13 rfl dX13_names_8 (fun v12826 hv12826 ov12826 => ?_)
  obtain rfl : v12826 = .ref x0 := hv12826.symm.trans pf0
  refine t_getN (C := RX12) (T := TX12) (N := 31) X hT mx0 gx0 rfl rfl 12 (by decide) (List.mem_of_getElem? (i := 16) rfl) inlX12 rfl dX13_names_11 (fun v12827 hv12827 ov12827 => ?_)
  obtain rfl : v12827 = .int x3 := hv12827.symm.trans pf3
  refine lv_lload_n hx hb dX13_names_14 rfl (lv_at hl 1 rfl) ?_
  refine t_lst X hT mb12825 gb12825 rfl (by omega) dX13_names_15 (fun F H locs hT h1v12828 h2v12828 => ?_)
  have pf0 := (h2v12828 _ _).trans pf0
  have pf1 := (h2v12828 _ _).trans pf1
  have pf2 := (h2v12828 _ _).trans pf2
  have pf3 := (h2v12828 _ _).trans pf3
  have hv12824 := (h2v12828 _ _).trans hv12824
  have hfr : (∀ b j : Nat, (tag b ≠ 44 ∨ j ≠ 12) → fld F b j = fld Fo b j) ∧ (∀ b j : Nat, tag b ≠ 34 → tag b ≠ 35 → tag b ≠ 36 → elm F b j = elm Fo b j) := ⟨fun b j n44_12 => (h2v12828 b j).trans (hfr.1 b j n44_12), fun b j a34 a35 a36 => (h1v12828 b j).trans (hfr.2 b j a34 a35 a36)⟩
  have hrel := msr_of (fun j => h1v12828 _ j) (fun j => h1v12828 _ j) hrel
  refine lv_aload_n hx hb dX13_names_16 rfl (lv_at hl 0 rfl) ?_
  refine t_get (C := RX13) (T := TX13) (N := 37) X hT m0 g0 rfl rfl 4 (by decide) qw_477 inlX13 rfl dX13_names_17 (fun v12829 hv12829 ov12829 => ?_)
  obtain rfl : v12829 = .ref x0 := hv12829.symm.trans pf0
  refine t_getN (C := RX12) (T := TX12) (N := 31) X hT mx0 gx0 rfl rfl 28 (by decide) (List.mem_of_getElem? (i := 32) rfl) inlX12 rfl dX13_names_20 (fun v12830 hv12830 ov12830 => ?_)
  obtain rfl : v12830 = .ref x1 := hv12830.symm.trans pf1
  refine lv_aload_n hx hb dX13_names_23 rfl (lv_at hl 0 rfl) ?_
  refine t_get (C := RX13) (T := TX13) (N := 37) X hT m0 g0 rfl rfl 4 (by decide) qw_477 inlX13 rfl dX13_names_24 (fun v12831 hv12831 ov12831 => ?_)
  obtain rfl : v12831 = .ref x0 := hv12831.symm.trans pf0
  refine t_getN (C := RX12) (T := TX12) (N := 31) X hT mx0 gx0 rfl rfl 12 (by decide) (List.mem_of_getElem? (i := 16) rfl) inlX12 rfl dX13_names_27 (fun v12832 hv12832 ov12832 => ?_)
  obtain rfl : v12832 = .int x3 := hv12832.symm.trans pf3
  refine lv_iload_n hx hb dX13_names_30 rfl (lv_at hl 2 rfl) ?_
  refine t_ist X hT mx1 gx1 rfl (by omega) (show (-2147483648) ≤ (p2 : Int32).toInt ∧ (p2 : Int32).toInt ≤ 2147483647 from (rg_all _)) dX13_names_31 (fun F H locs hT v12833 h1v12833 h2v12833 => ?_)
  have pf0 := (h2v12833 _ _).trans pf0
  have pf1 := (h2v12833 _ _).trans pf1
  have pf2 := (h2v12833 _ _).trans pf2
  have pf3 := (h2v12833 _ _).trans pf3
  have hv12824 := (h2v12833 _ _).trans hv12824
  have hfr : (∀ b j : Nat, (tag b ≠ 44 ∨ j ≠ 12) → fld F b j = fld Fo b j) ∧ (∀ b j : Nat, tag b ≠ 34 → tag b ≠ 35 → tag b ≠ 36 → elm F b j = elm Fo b j) := ⟨fun b j n44_12 => (h2v12833 b j).trans (hfr.1 b j n44_12), fun b j a34 a35 a36 => (h1v12833 b j (Or.inl (at_ne gx1 a35))).trans (hfr.2 b j a34 a35 a36)⟩
  have hrel := msr_s hrel h1v12833 (tne gx2 gx1 (by decide))
  refine lv_aload_n hx hb dX13_names_32 rfl (lv_at hl 0 rfl) ?_
  refine t_get (C := RX13) (T := TX13) (N := 37) X hT m0 g0 rfl rfl 4 (by decide) qw_477 inlX13 rfl dX13_names_33 (fun v12834 hv12834 ov12834 => ?_)
  obtain rfl : v12834 = .ref x0 := hv12834.symm.trans pf0
  refine t_getN (C := RX12) (T := TX12) (N := 31) X hT mx0 gx0 rfl rfl 29 (by decide) (List.mem_of_getElem? (i := 33) rfl) inlX12 rfl dX13_names_36 (fun v12835 hv12835 ov12835 => ?_)
  obtain rfl : v12835 = .ref x2 := hv12835.symm.trans pf2
  refine lv_aload_n hx hb dX13_names_39 rfl (lv_at hl 0 rfl) ?_
  refine t_get (C := RX13) (T := TX13) (N := 37) X hT m0 g0 rfl rfl 4 (by decide) qw_477 inlX13 rfl dX13_names_40 (fun v12836 hv12836 ov12836 => ?_)
  obtain rfl : v12836 = .ref x0 := hv12836.symm.trans pf0
  refine t_getN (C := RX12) (T := TX12) (N := 31) X hT mx0 gx0 rfl rfl 12 (by decide) (List.mem_of_getElem? (i := 16) rfl) inlX12 rfl dX13_names_43 (fun v12837 hv12837 ov12837 => ?_)
  obtain rfl : v12837 = .int x3 := hv12837.symm.trans pf3
  refine lv_iload hx hb dX13_names_46 (lv_at hl 3 rfl) ?_
  refine t_ist X hT mx2 gx2 rfl (by omega) (show (-2147483648) ≤ (p3 : Int32).toInt ∧ (p3 : Int32).toInt ≤ 2147483647 from (rg_all _)) dX13_names_48 (fun F H locs hT v12838 h1v12838 h2v12838 => ?_)
  have pf0 := (h2v12838 _ _).trans pf0
  have pf1 := (h2v12838 _ _).trans pf1
  have pf2 := (h2v12838 _ _).trans pf2
  have pf3 := (h2v12838 _ _).trans pf3
  have hv12824 := (h2v12838 _ _).trans hv12824
  have v12833 := (h1v12838 _ _ (Or.inl (tne gx1 gx2 (by decide)))).trans v12833
  have hfr : (∀ b j : Nat, (tag b ≠ 44 ∨ j ≠ 12) → fld F b j = fld Fo b j) ∧ (∀ b j : Nat, tag b ≠ 34 → tag b ≠ 35 → tag b ≠ 36 → elm F b j = elm Fo b j) := ⟨fun b j n44_12 => (h2v12838 b j).trans (hfr.1 b j n44_12), fun b j a34 a35 a36 => (h1v12838 b j (Or.inl (at_ne gx2 a36))).trans (hfr.2 b j a34 a35 a36)⟩
  have hrel := msr_n hrel v12833 h1v12838 v12838 (tne gx1 gx2 (by decide)) ⟨fun h9 => (by have h8 := congrArg Int32.toInt h9; rw [show ((0 : Int32).toInt = 0) from by decide] at h8; omega), fun h9 => (by have h8 := congrArg Int32.toInt h9; rw [show ((1 : Int32).toInt = 1) from by decide] at h8; omega), fun h9 => (by have h8 := congrArg Int32.toInt h9; rw [show ((3 : Int32).toInt = 3) from by decide] at h8; omega)⟩
  refine lv_aload_n hx hb dX13_names_49 rfl (lv_at hl 0 rfl) ?_
  refine t_get (C := RX13) (T := TX13) (N := 37) X hT m0 g0 rfl rfl 4 (by decide) qw_477 inlX13 rfl dX13_names_50 (fun v12839 hv12839 ov12839 => ?_)
  obtain rfl : v12839 = .ref x0 := hv12839.symm.trans pf0
  refine lv_dup hx hb dX13_names_53 rfl ?_
  refine t_getN (C := RX12) (T := TX12) (N := 31) X hT mx0 gx0 rfl rfl 12 (by decide) (List.mem_of_getElem? (i := 16) rfl) inlX12 rfl dX13_names_54 (fun v12840 hv12840 ov12840 => ?_)
  obtain rfl : v12840 = .int x3 := hv12840.symm.trans pf3
  refine lv_iconst (v := 1) hx hb dX13_names_57 (by decide) ?_
  refine lv_iadd hx hb dX13_names_58 ?_
  refine lv_topi (fun z12841 ez12841 => ?_)
  have hz12841 : z12841.toInt = x3.toInt + 1 := ar_add ez12841 (rfl : x3.toInt = x3.toInt) (by decide : (1 : Int32).toInt = 1) (by omega) (by omega)
  have rz12841 : 1 ≤ z12841.toInt ∧ z12841.toInt ≤ 32 := by omega
  refine t_putN (C := RX12) (T := TX12) (N := 31) (v := .int z12841) X hT mx0 gx0 rfl tyX12 tyX12_ok nmX12 rfl 12 (by decide) (List.mem_of_getElem? (i := 16) rfl) inlX12 rfl (by first | rfl | decide) (by first | rfl | decide) rfl (⟨_, rfl, (show 0 ≤ (z12841 : Int32).toInt from (by omega)), (show (z12841 : Int32).toInt ≤ 32 from (by omega))⟩) dX13_names_59 (fun F H locs hT v12842 h1v12842 h2v12842 => ?_)
  have pf0 := (h1v12842 _ _ (Or.inr (by decide))).trans pf0
  have pf1 := (h1v12842 _ _ (Or.inr (by decide))).trans pf1
  have pf2 := (h1v12842 _ _ (Or.inr (by decide))).trans pf2
  have hv12824 := (h1v12842 _ _ (Or.inr (by decide))).trans hv12824
  have v12833 := (h2v12842 _ _).trans v12833
  have v12838 := (h2v12842 _ _).trans v12838
  have hfr : (∀ b j : Nat, (tag b ≠ 44 ∨ j ≠ 12) → fld F b j = fld Fo b j) ∧ (∀ b j : Nat, tag b ≠ 34 → tag b ≠ 35 → tag b ≠ 36 → elm F b j = elm Fo b j) := ⟨fun b j n44_12 => (h1v12842 b j (fr_ne gx0 n44_12)).trans (hfr.1 b j n44_12), fun b j a34 a35 a36 => (h2v12842 b j).trans (hfr.2 b j a34 a35 a36)⟩
  have hrel := msr_of (fun j => h2v12842 _ j) (fun j => h2v12842 _ j) hrel
  exact t_vret hQ X hT ⟨hfr, hrel, ⟨_, v12842, by omega⟩⟩ (Nat.le_of_ble_eq_true rfl) (Nat.le_of_ble_eq_true rfl) dX13_names_62
set_option maxHeartbeats 4000000 in
set_option maxRecDepth 100000 in
theorem km34_X13_readHeir (l : Launch) (G : KG) (tag : Nat → Nat) (L : List Nat) (Fo : Nat → va_E) (ho : okT G ttC tag L Fo) (p0 : Nat) (x0 : Nat) (x1 : Nat) (x2 : Nat) (x3 : Int32) (x4 : Int32) (x5 : Int32) (x6 : Int32) (x7 : Int32) (x8 : Int32) (x9 : Int32) (x10 : Int32) (x11 : Int32) (m0 : p0 ∈ L) (g0 : tag p0 = 46) (mx0 : x0 ∈ L) (gx0 : tag x0 = 44) (pf0 : fld Fo p0 4 = .ref x0) (mx1 : x1 ∈ L) (gx1 : tag x1 = 35) (pf1 : fld Fo x0 28 = .ref x1) (mx2 : x2 ∈ L) (gx2 : tag x2 = 36) (pf2 : fld Fo x0 29 = .ref x2) (hx3 : 0 ≤ x3.toInt ∧ x3.toInt ≤ 5) (pf3 : fld Fo p0 9 = .int x3) (hx4 : 0 ≤ x4.toInt ∧ x4.toInt ≤ 1000) (pf4 : fld Fo p0 8 = .int x4) (hx5 : 0 ≤ x5.toInt ∧ x5.toInt ≤ 7) (pf5 : fld Fo p0 13 = .int x5) (hx6 : 0 ≤ x6.toInt ∧ x6.toInt ≤ 32) (pf6 : fld Fo x0 12 = .int x6) (hx7 : 0 ≤ x7.toInt ∧ x7.toInt ≤ 4) (pf7 : fld Fo x0 7 = .int x7) (hx8 : 0 ≤ x8.toInt ∧ x8.toInt ≤ 4) (pf8 : fld Fo x0 8 = .int x8) (hx9 : 0 ≤ x9.toInt ∧ x9.toInt ≤ 6) (pf9 : fld Fo x0 9 = .int x9) (hx10 : 0 ≤ x10.toInt ∧ x10.toInt ≤ 6) (pf10 : fld Fo x0 10 = .int x10) (hx11 : 0 ≤ x11.toInt ∧ x11.toInt ≤ 12) (pf11 : fld Fo x0 0 = .int x11) (hrel : MSR Fo x1 x2) (hkf : KF x3 x5) (hpl : PLr x6 x7 x8 x9 x10 x11) : TMv l yX13_readHeir cX13_readHeir 5 { frames := 9, cells := 0, slots := 0, locals := 193 } G ttC tag L Fo [.ref p0] (fun F1 => ((∀ b j : Nat, (tag b ≠ 44 ∨ j ≠ 9) → (tag b ≠ 44 ∨ j ≠ 12) → (tag b ≠ 46 ∨ j ≠ 8) → (tag b ≠ 46 ∨ j ≠ 9) → (tag b ≠ 46 ∨ j ≠ 10) → (tag b ≠ 46 ∨ j ≠ 11) → (tag b ≠ 46 ∨ j ≠ 12) → (tag b ≠ 46 ∨ j ≠ 13) → (tag b ≠ 46 ∨ j ≠ 14) → (tag b ≠ 46 ∨ j ≠ 15) → fld F1 b j = fld Fo b j) ∧ (∀ b j : Nat, tag b ≠ 32 → tag b ≠ 34 → tag b ≠ 35 → tag b ≠ 36 → tag b ≠ 37 → elm F1 b j = elm Fo b j)) ∧ (MSR F1 x1 x2) ∧ (∃ so sp fa : Int32, fld F1 p0 9 = .int so ∧ fld F1 p0 8 = .int sp ∧ fld F1 p0 13 = .int fa ∧ (0 ≤ so.toInt ∧ so.toInt ≤ 5) ∧ (0 ≤ sp.toInt ∧ sp.toInt ≤ 1000) ∧ (0 ≤ fa.toInt ∧ fa.toInt ≤ 7) ∧ STK x3 so ∧ SPT x3 x4 so sp ∧ KF so fa) ∧ (∃ na st ho he wa wi : Int32, fld F1 x0 12 = .int na ∧ fld F1 x0 7 = .int st ∧ fld F1 x0 8 = .int ho ∧ fld F1 x0 9 = .int he ∧ fld F1 x0 10 = .int wa ∧ fld F1 x0 0 = .int wi ∧ (0 ≤ na.toInt ∧ na.toInt ≤ 32) ∧ (0 ≤ st.toInt ∧ st.toInt ≤ 4) ∧ (0 ≤ ho.toInt ∧ ho.toInt ≤ 4) ∧ (0 ≤ he.toInt ∧ he.toInt ≤ 6) ∧ (0 ≤ wa.toInt ∧ wa.toInt ≤ 6) ∧ (0 ≤ wi.toInt ∧ wi.toInt ≤ 12) ∧ PLr na st ho he wa wi)) := by
  refine t_bodyv (y := yX13_readHeir) (cd := cX13_readHeir) (mL := 5) (rm := { frames := 9, cells := 0, slots := 0, locals := 193 }) (av := [.ref p0]) (by decide) (Nat.le_of_ble_eq_true rfl) ho ?_
  intro p e s m args below meth c ls A Q hQ X hT hl
  have hx := X.1.1
  have hb := X.1.2.1
  have hl : lv_has ls 5 [(0, .ref p0)] := hl
  obtain ⟨F, hFo⟩ : ∃ F : Nat → va_E, F = Fo := ⟨_, rfl⟩
  rw [← hFo] at hT pf0 pf1 pf2 pf3 pf4 pf5 pf6 pf7 pf8 pf9 pf10 pf11 hrel
  have hfr : (∀ b j : Nat, (tag b ≠ 44 ∨ j ≠ 9) → (tag b ≠ 44 ∨ j ≠ 12) → (tag b ≠ 46 ∨ j ≠ 8) → (tag b ≠ 46 ∨ j ≠ 9) → (tag b ≠ 46 ∨ j ≠ 10) → (tag b ≠ 46 ∨ j ≠ 11) → (tag b ≠ 46 ∨ j ≠ 12) → (tag b ≠ 46 ∨ j ≠ 13) → (tag b ≠ 46 ∨ j ≠ 14) → (tag b ≠ 46 ∨ j ≠ 15) → fld F b j = fld Fo b j) ∧ (∀ b j : Nat, tag b ≠ 32 → tag b ≠ 34 → tag b ≠ 35 → tag b ≠ 36 → tag b ≠ 37 → elm F b j = elm Fo b j) := by
    rw [hFo]
    exact ⟨by intros; rfl, by intros; rfl⟩
  have hstk : STK x3 x3 := STK.rf
  have hspt : SPT x3 x4 x3 x4 := SPT.rf
  have hpu := hpl
  unfold PLr at hpu
  refine lv_aload_n hx hb dX13_readHeir_0 rfl (lv_at hl 0 rfl) ?_
  refine lv_aload_n hx hb dX13_readHeir_1 rfl (lv_at hl 0 rfl) ?_
  refine t_get (C := RX13) (T := TX13) (N := 37) X hT m0 g0 rfl rfl 4 (by decide) qw_477 inlX13 rfl dX13_readHeir_2 (fun v13368 hv13368 ov13368 => ?_)
  obtain rfl : v13368 = .ref x0 := hv13368.symm.trans pf0
  refine t_getN (C := RX12) (T := TX12) (N := 31) X hT mx0 gx0 rfl rfl 9 (by decide) (List.mem_of_getElem? (i := 13) rfl) inlX12 rfl dX13_readHeir_5 (fun v13369 hv13369 ov13369 => ?_)
  obtain rfl : v13369 = .int x9 := hv13369.symm.trans pf9
  refine lv_bipush (v := 6) hx hb dX13_readHeir_8 (by decide) ?_
  refine t_cVv (n := 2) (C := RX13) (T := TX13) (N := 37) (As := [.int x9, .int 6]) (rest := []) X hT (km15_X13_begins l G tag L F hT.2.2.2 p0 x9 6 x0 x1 x2 x3 x4 x5 x11 m0 g0 mx0 gx0 pf0 mx1 gx1 pf1 mx2 gx2 pf2 (by omega) pf3 (by omega) pf4 (by omega) pf5 (by omega) pf11 hkf) m0 g0 rfl rfl qw_575 qw_576 qw_577 qw_5 qw_578 ⟨rfl, by decide +kernel, by decide +kernel, by decide +kernel⟩ ⟨Nat.le_of_ble_eq_true rfl, Nat.le_of_ble_eq_true rfl⟩ hl rfl rfl (Nat.le_of_ble_eq_true rfl) dX13_readHeir_10 ⟨Nat.le_of_ble_eq_true rfl, Nat.le_of_ble_eq_true rfl⟩ (fun F H locs hT hz13370 => ?_)
  obtain ⟨yz13370, ⟨soz13370, spz13370, faz13370, qsoz13370, qspz13370, qfaz13370, rsoz13370, rspz13370, rfaz13370, stz13370, ptz13370, hkf, pxz13370_0⟩⟩ := hz13370
  have pf0 := (yz13370.1 _ 4 (Or.inr (by decide)) (Or.inr (by decide)) (Or.inr (by decide)) (Or.inr (by decide)) (Or.inr (by decide)) (Or.inr (by decide)) (Or.inr (by decide)) (Or.inr (by decide))).trans pf0
  have pf1 := (yz13370.1 _ 28 (Or.inr (by decide)) (Or.inr (by decide)) (Or.inr (by decide)) (Or.inr (by decide)) (Or.inr (by decide)) (Or.inr (by decide)) (Or.inr (by decide)) (Or.inr (by decide))).trans pf1
  have pf2 := (yz13370.1 _ 29 (Or.inr (by decide)) (Or.inr (by decide)) (Or.inr (by decide)) (Or.inr (by decide)) (Or.inr (by decide)) (Or.inr (by decide)) (Or.inr (by decide)) (Or.inr (by decide))).trans pf2
  have pf6 := (yz13370.1 _ 12 (Or.inr (by decide)) (Or.inr (by decide)) (Or.inr (by decide)) (Or.inr (by decide)) (Or.inl (by rw [gx0]; decide)) (Or.inr (by decide)) (Or.inr (by decide)) (Or.inr (by decide))).trans pf6
  have pf7 := (yz13370.1 _ 7 (Or.inr (by decide)) (Or.inr (by decide)) (Or.inr (by decide)) (Or.inr (by decide)) (Or.inr (by decide)) (Or.inr (by decide)) (Or.inr (by decide)) (Or.inr (by decide))).trans pf7
  have pf8 := (yz13370.1 _ 8 (Or.inl (by rw [gx0]; decide)) (Or.inr (by decide)) (Or.inr (by decide)) (Or.inr (by decide)) (Or.inr (by decide)) (Or.inr (by decide)) (Or.inr (by decide)) (Or.inr (by decide))).trans pf8
  have pf9 := (yz13370.1 _ 9 (Or.inr (by decide)) (Or.inl (by rw [gx0]; decide)) (Or.inr (by decide)) (Or.inr (by decide)) (Or.inr (by decide)) (Or.inr (by decide)) (Or.inr (by decide)) (Or.inr (by decide))).trans pf9
  have pf10 := (yz13370.1 _ 10 (Or.inr (by decide)) (Or.inr (by decide)) (Or.inl (by rw [gx0]; decide)) (Or.inr (by decide)) (Or.inr (by decide)) (Or.inr (by decide)) (Or.inr (by decide)) (Or.inr (by decide))).trans pf10
  have pf11 := (yz13370.1 _ 0 (Or.inr (by decide)) (Or.inr (by decide)) (Or.inr (by decide)) (Or.inr (by decide)) (Or.inr (by decide)) (Or.inr (by decide)) (Or.inr (by decide)) (Or.inr (by decide))).trans pf11
  have hfr : (∀ b j : Nat, (tag b ≠ 44 ∨ j ≠ 9) → (tag b ≠ 44 ∨ j ≠ 12) → (tag b ≠ 46 ∨ j ≠ 8) → (tag b ≠ 46 ∨ j ≠ 9) → (tag b ≠ 46 ∨ j ≠ 10) → (tag b ≠ 46 ∨ j ≠ 11) → (tag b ≠ 46 ∨ j ≠ 12) → (tag b ≠ 46 ∨ j ≠ 13) → (tag b ≠ 46 ∨ j ≠ 14) → (tag b ≠ 46 ∨ j ≠ 15) → fld F b j = fld Fo b j) ∧ (∀ b j : Nat, tag b ≠ 32 → tag b ≠ 34 → tag b ≠ 35 → tag b ≠ 36 → tag b ≠ 37 → elm F b j = elm Fo b j) := ⟨fun b j n44_9 n44_12 n46_8 n46_9 n46_10 n46_11 n46_12 n46_13 n46_14 n46_15 => (yz13370.1 b j n46_8 n46_9 n46_10 n46_11 n46_12 n46_13 n46_14 n46_15).trans (hfr.1 b j n44_9 n44_12 n46_8 n46_9 n46_10 n46_11 n46_12 n46_13 n46_14 n46_15), fun b j a32 a34 a35 a36 a37 => (yz13370.2 b j ).trans (hfr.2 b j a32 a34 a35 a36 a37)⟩
  have hrel := msr_of (fun j => yz13370.2 _ j ) (fun j => yz13370.2 _ j ) hrel
  have hstk := STK.tr hstk stz13370
  have hspt := SPT.tr hspt ptz13370
  have k13371 : (6 : Int32).toInt = 6 := by decide
  refine lv_aload_n hx hb dX13_readHeir_13 rfl (lv_at hl 0 rfl) ?_
  refine t_cVl (n := 0) (C := RX13) (T := TX13) (N := 37) (As := []) (rest := []) X hT (km26_X13_readFresh l G tag L F hT.2.2.2 p0 x0 x1 x2 soz13370 spz13370 faz13370 m0 g0 mx0 gx0 pf0 mx1 gx1 pf1 mx2 gx2 pf2 (by omega) qsoz13370 (by omega) qspz13370 (by omega) qfaz13370 hkf) m0 g0 rfl rfl qw_595 qw_596 qw_597 qw_5 qw_598 ⟨rfl, by decide +kernel, by decide +kernel, by decide +kernel⟩ ⟨Nat.le_of_ble_eq_true rfl, Nat.le_of_ble_eq_true rfl⟩ hl rfl rfl (Nat.le_of_ble_eq_true rfl) dX13_readHeir_14 ⟨Nat.le_of_ble_eq_true rfl, Nat.le_of_ble_eq_true rfl⟩ (fun z13372 F H locs hT hz13372 => ?_)
  obtain ⟨yz13372, ⟨soz13372, spz13372, faz13372, qsoz13372, qspz13372, qfaz13372, rsoz13372, rspz13372, rfaz13372, stz13372, ptz13372, hkf⟩⟩ := hz13372
  have pf0 := (yz13372.1 _ 4 (Or.inr (by decide)) (Or.inr (by decide)) (Or.inr (by decide)) (Or.inr (by decide)) (Or.inr (by decide)) (Or.inr (by decide)) (Or.inr (by decide)) (Or.inr (by decide))).trans pf0
  have pf1 := (yz13372.1 _ 28 (Or.inr (by decide)) (Or.inr (by decide)) (Or.inr (by decide)) (Or.inr (by decide)) (Or.inr (by decide)) (Or.inr (by decide)) (Or.inr (by decide)) (Or.inr (by decide))).trans pf1
  have pf2 := (yz13372.1 _ 29 (Or.inr (by decide)) (Or.inr (by decide)) (Or.inr (by decide)) (Or.inr (by decide)) (Or.inr (by decide)) (Or.inr (by decide)) (Or.inr (by decide)) (Or.inr (by decide))).trans pf2
  have pf6 := (yz13372.1 _ 12 (Or.inr (by decide)) (Or.inr (by decide)) (Or.inr (by decide)) (Or.inr (by decide)) (Or.inl (by rw [gx0]; decide)) (Or.inr (by decide)) (Or.inr (by decide)) (Or.inr (by decide))).trans pf6
  have pf7 := (yz13372.1 _ 7 (Or.inr (by decide)) (Or.inr (by decide)) (Or.inr (by decide)) (Or.inr (by decide)) (Or.inr (by decide)) (Or.inr (by decide)) (Or.inr (by decide)) (Or.inr (by decide))).trans pf7
  have pf8 := (yz13372.1 _ 8 (Or.inl (by rw [gx0]; decide)) (Or.inr (by decide)) (Or.inr (by decide)) (Or.inr (by decide)) (Or.inr (by decide)) (Or.inr (by decide)) (Or.inr (by decide)) (Or.inr (by decide))).trans pf8
  have pf9 := (yz13372.1 _ 9 (Or.inr (by decide)) (Or.inl (by rw [gx0]; decide)) (Or.inr (by decide)) (Or.inr (by decide)) (Or.inr (by decide)) (Or.inr (by decide)) (Or.inr (by decide)) (Or.inr (by decide))).trans pf9
  have pf10 := (yz13372.1 _ 10 (Or.inr (by decide)) (Or.inr (by decide)) (Or.inl (by rw [gx0]; decide)) (Or.inr (by decide)) (Or.inr (by decide)) (Or.inr (by decide)) (Or.inr (by decide)) (Or.inr (by decide))).trans pf10
  have pf11 := (yz13372.1 _ 0 (Or.inr (by decide)) (Or.inr (by decide)) (Or.inr (by decide)) (Or.inr (by decide)) (Or.inr (by decide)) (Or.inr (by decide)) (Or.inr (by decide)) (Or.inr (by decide))).trans pf11
  have hfr : (∀ b j : Nat, (tag b ≠ 44 ∨ j ≠ 9) → (tag b ≠ 44 ∨ j ≠ 12) → (tag b ≠ 46 ∨ j ≠ 8) → (tag b ≠ 46 ∨ j ≠ 9) → (tag b ≠ 46 ∨ j ≠ 10) → (tag b ≠ 46 ∨ j ≠ 11) → (tag b ≠ 46 ∨ j ≠ 12) → (tag b ≠ 46 ∨ j ≠ 13) → (tag b ≠ 46 ∨ j ≠ 14) → (tag b ≠ 46 ∨ j ≠ 15) → fld F b j = fld Fo b j) ∧ (∀ b j : Nat, tag b ≠ 32 → tag b ≠ 34 → tag b ≠ 35 → tag b ≠ 36 → tag b ≠ 37 → elm F b j = elm Fo b j) := ⟨fun b j n44_9 n44_12 n46_8 n46_9 n46_10 n46_11 n46_12 n46_13 n46_14 n46_15 => (yz13372.1 b j n46_8 n46_9 n46_10 n46_11 n46_12 n46_13 n46_14 n46_15).trans (hfr.1 b j n44_9 n44_12 n46_8 n46_9 n46_10 n46_11 n46_12 n46_13 n46_14 n46_15), fun b j a32 a34 a35 a36 a37 => (yz13372.2 b j ).trans (hfr.2 b j a32 a34 a35 a36 a37)⟩
  have hrel := msr_of (fun j => yz13372.2 _ j ) (fun j => yz13372.2 _ j ) hrel
  have hstk := STK.tr hstk stz13372
  have hspt := SPT.tr hspt ptz13372
  refine lv_lstore_n (lv' := [(1, .long z13372), (0, .ref p0)]) hx hb dX13_readHeir_17 rfl hl (by decide) rfl (fun ls hl => ?_)
  refine lv_aload_n hx hb dX13_readHeir_18 rfl (lv_at hl 1 rfl) ?_
  refine lv_iconst (v := 1) hx hb dX13_readHeir_19 (by decide) ?_
  refine t_cVi (n := 1) (C := RX13) (T := TX13) (N := 37) (As := [.int 1]) (rest := []) X hT (km30_X13_readKnown l G tag L F hT.2.2.2 p0 1 x0 x1 x2 soz13372 spz13372 faz13372 m0 g0 (by decide) mx0 gx0 pf0 mx1 gx1 pf1 mx2 gx2 pf2 (by omega) qsoz13372 (by omega) qspz13372 (by omega) qfaz13372 hrel hkf) m0 g0 rfl rfl qw_632 qw_633 qw_634 qw_5 qw_635 ⟨rfl, by decide +kernel, by decide +kernel, by decide +kernel⟩ ⟨Nat.le_of_ble_eq_true rfl, Nat.le_of_ble_eq_true rfl⟩ hl rfl rfl (Nat.le_of_ble_eq_true rfl) dX13_readHeir_20 ⟨Nat.le_of_ble_eq_true rfl, Nat.le_of_ble_eq_true rfl⟩ (fun z13373 F H locs hT hz13373 => ?_)
  obtain ⟨hz13373, yz13373, hrel, ⟨soz13373, spz13373, faz13373, qsoz13373, qspz13373, qfaz13373, rsoz13373, rspz13373, rfaz13373, stz13373, ptz13373, hkf⟩⟩ := hz13373
  have pf0 := (yz13373.1 _ 4 (Or.inr (by decide)) (Or.inr (by decide)) (Or.inr (by decide)) (Or.inr (by decide)) (Or.inr (by decide)) (Or.inr (by decide)) (Or.inr (by decide)) (Or.inr (by decide))).trans pf0
  have pf1 := (yz13373.1 _ 28 (Or.inr (by decide)) (Or.inr (by decide)) (Or.inr (by decide)) (Or.inr (by decide)) (Or.inr (by decide)) (Or.inr (by decide)) (Or.inr (by decide)) (Or.inr (by decide))).trans pf1
  have pf2 := (yz13373.1 _ 29 (Or.inr (by decide)) (Or.inr (by decide)) (Or.inr (by decide)) (Or.inr (by decide)) (Or.inr (by decide)) (Or.inr (by decide)) (Or.inr (by decide)) (Or.inr (by decide))).trans pf2
  have pf6 := (yz13373.1 _ 12 (Or.inr (by decide)) (Or.inr (by decide)) (Or.inr (by decide)) (Or.inr (by decide)) (Or.inl (by rw [gx0]; decide)) (Or.inr (by decide)) (Or.inr (by decide)) (Or.inr (by decide))).trans pf6
  have pf7 := (yz13373.1 _ 7 (Or.inr (by decide)) (Or.inr (by decide)) (Or.inr (by decide)) (Or.inr (by decide)) (Or.inr (by decide)) (Or.inr (by decide)) (Or.inr (by decide)) (Or.inr (by decide))).trans pf7
  have pf8 := (yz13373.1 _ 8 (Or.inl (by rw [gx0]; decide)) (Or.inr (by decide)) (Or.inr (by decide)) (Or.inr (by decide)) (Or.inr (by decide)) (Or.inr (by decide)) (Or.inr (by decide)) (Or.inr (by decide))).trans pf8
  have pf9 := (yz13373.1 _ 9 (Or.inr (by decide)) (Or.inl (by rw [gx0]; decide)) (Or.inr (by decide)) (Or.inr (by decide)) (Or.inr (by decide)) (Or.inr (by decide)) (Or.inr (by decide)) (Or.inr (by decide))).trans pf9
  have pf10 := (yz13373.1 _ 10 (Or.inr (by decide)) (Or.inr (by decide)) (Or.inl (by rw [gx0]; decide)) (Or.inr (by decide)) (Or.inr (by decide)) (Or.inr (by decide)) (Or.inr (by decide)) (Or.inr (by decide))).trans pf10
  have pf11 := (yz13373.1 _ 0 (Or.inr (by decide)) (Or.inr (by decide)) (Or.inr (by decide)) (Or.inr (by decide)) (Or.inr (by decide)) (Or.inr (by decide)) (Or.inr (by decide)) (Or.inr (by decide))).trans pf11
  have hfr : (∀ b j : Nat, (tag b ≠ 44 ∨ j ≠ 9) → (tag b ≠ 44 ∨ j ≠ 12) → (tag b ≠ 46 ∨ j ≠ 8) → (tag b ≠ 46 ∨ j ≠ 9) → (tag b ≠ 46 ∨ j ≠ 10) → (tag b ≠ 46 ∨ j ≠ 11) → (tag b ≠ 46 ∨ j ≠ 12) → (tag b ≠ 46 ∨ j ≠ 13) → (tag b ≠ 46 ∨ j ≠ 14) → (tag b ≠ 46 ∨ j ≠ 15) → fld F b j = fld Fo b j) ∧ (∀ b j : Nat, tag b ≠ 32 → tag b ≠ 34 → tag b ≠ 35 → tag b ≠ 36 → tag b ≠ 37 → elm F b j = elm Fo b j) := ⟨fun b j n44_9 n44_12 n46_8 n46_9 n46_10 n46_11 n46_12 n46_13 n46_14 n46_15 => (yz13373.1 b j n46_8 n46_9 n46_10 n46_11 n46_12 n46_13 n46_14 n46_15).trans (hfr.1 b j n44_9 n44_12 n46_8 n46_9 n46_10 n46_11 n46_12 n46_13 n46_14 n46_15), fun b j a32 a34 a35 a36 a37 => (yz13373.2 b j ).trans (hfr.2 b j a32 a34 a35 a36 a37)⟩
  have hstk := STK.tr hstk stz13373
  have hspt := SPT.tr hspt ptz13373
  refine lv_istore_n (lv' := [(3, .int z13373), (1, .long z13372), (0, .ref p0)]) hx hb dX13_readHeir_23 rfl hl (by decide) rfl (fun ls hl => ?_)
  refine lv_aload_n hx hb dX13_readHeir_24 rfl (lv_at hl 2 rfl) ?_
  refine lv_iconst (v := 0) hx hb dX13_readHeir_25 (by decide) ?_
  refine lv_aload_n hx hb dX13_readHeir_26 rfl (lv_at hl 2 rfl) ?_
  refine t_get (C := RX13) (T := TX13) (N := 37) X hT m0 g0 rfl rfl 9 (by decide) qw_478 inlX13 rfl dX13_readHeir_27 (fun v13374 hv13374 ov13374 => ?_)
  obtain rfl : v13374 = .int soz13373 := hv13374.symm.trans qsoz13373
  refine lv_iconst (v := 5) hx hb dX13_readHeir_30 (by decide) ?_
  refine lv_icmp_ne (tgt := 38) hx hb dX13_readHeir_31 (by decide) (fun c13375 => ?_) (fun c13375 => ?_)
  · have w13376 := cv_ne (rfl : soz13373.toInt = soz13373.toInt) (by decide : (5 : Int32).toInt = 5) c13375
    have w13377 := (fun h9 => (fun h9 => pxz13370_0 (fun e9 => h9 (stz13372 e9))) (fun e9 => h9 (stz13373 e9))) (by omega)
    have w13378 := (fun h9 => (fun h9 => pxz13370_0 (fun e9 => h9 (stz13372 e9))) (fun e9 => h9 (stz13373 e9))) (by omega)
    refine lv_aload_n hx hb dX13_readHeir_38 rfl (lv_at hl 2 rfl) ?_
    refine t_get (C := RX13) (T := TX13) (N := 37) X hT m0 g0 rfl rfl 4 (by decide) qw_477 inlX13 rfl dX13_readHeir_39 (fun v13379 hv13379 ov13379 => ?_)
    obtain rfl : v13379 = .ref x0 := hv13379.symm.trans pf0
    refine t_getN (C := RX12) (T := TX12) (N := 31) X hT mx0 gx0 rfl rfl 30 (by decide) (List.mem_of_getElem? (i := 34) rfl) inlX12 rfl dX13_readHeir_42 (fun v13380 hv13380 ov13380 => ?_)
    obtain ⟨b13381, rfl, mb13381, gb13381⟩ := okV_r ov13380
    have gb13381 : tag b13381 = 37 := tg_of gb13381
    refine lv_iconst (v := 0) hx hb dX13_readHeir_45 (by decide) ?_
    refine lv_iload_n hx hb dX13_readHeir_46 rfl (lv_at hl 0 rfl) ?_
    refine lv_iadd hx hb dX13_readHeir_47 ?_
    refine lv_topi (fun z13382 ez13382 => ?_)
    obtain rfl : z13373 = z13382 := (ar_zadd ez13382).symm
    refine t_ild X hT mb13381 gb13381 rfl (by omega) dX13_readHeir_48 (fun z13383 vz13383 rz13383 => ?_)
    have rz13383 := row_ml (by omega) rz13383
    refine t_cVi (n := 2) (C := RX13) (T := TX13) (N := 37) (As := [.int 0, .int z13383]) (rest := []) X hT (km32_X13_readWhole l G tag L F hT.2.2.2 p0 0 z13383 x0 x1 x2 soz13373 spz13373 faz13373 m0 g0 (by decide) (by omega) mx0 gx0 pf0 mx1 gx1 pf1 mx2 gx2 pf2 (by omega) qsoz13373 (by omega) qspz13373 (by omega) qfaz13373 hkf) m0 g0 rfl rfl qw_560 qw_561 qw_562 qw_5 qw_563 ⟨rfl, by decide +kernel, by decide +kernel, by decide +kernel⟩ ⟨Nat.le_of_ble_eq_true rfl, Nat.le_of_ble_eq_true rfl⟩ hl rfl rfl (Nat.le_of_ble_eq_true rfl) dX13_readHeir_49 ⟨Nat.le_of_ble_eq_true rfl, Nat.le_of_ble_eq_true rfl⟩ (fun z13384 F H locs hT hz13384 => ?_)
    obtain ⟨hz13384, yz13384, ⟨soz13384, spz13384, faz13384, qsoz13384, qspz13384, qfaz13384, rsoz13384, rspz13384, rfaz13384, stz13384, ptz13384, hkf⟩⟩ := hz13384
    have pf0 := (yz13384.1 _ 4 (Or.inr (by decide)) (Or.inr (by decide)) (Or.inr (by decide)) (Or.inr (by decide)) (Or.inr (by decide)) (Or.inr (by decide)) (Or.inr (by decide)) (Or.inr (by decide))).trans pf0
    have pf1 := (yz13384.1 _ 28 (Or.inr (by decide)) (Or.inr (by decide)) (Or.inr (by decide)) (Or.inr (by decide)) (Or.inr (by decide)) (Or.inr (by decide)) (Or.inr (by decide)) (Or.inr (by decide))).trans pf1
    have pf2 := (yz13384.1 _ 29 (Or.inr (by decide)) (Or.inr (by decide)) (Or.inr (by decide)) (Or.inr (by decide)) (Or.inr (by decide)) (Or.inr (by decide)) (Or.inr (by decide)) (Or.inr (by decide))).trans pf2
    have pf6 := (yz13384.1 _ 12 (Or.inr (by decide)) (Or.inr (by decide)) (Or.inr (by decide)) (Or.inr (by decide)) (Or.inl (by rw [gx0]; decide)) (Or.inr (by decide)) (Or.inr (by decide)) (Or.inr (by decide))).trans pf6
    have pf7 := (yz13384.1 _ 7 (Or.inr (by decide)) (Or.inr (by decide)) (Or.inr (by decide)) (Or.inr (by decide)) (Or.inr (by decide)) (Or.inr (by decide)) (Or.inr (by decide)) (Or.inr (by decide))).trans pf7
    have pf8 := (yz13384.1 _ 8 (Or.inl (by rw [gx0]; decide)) (Or.inr (by decide)) (Or.inr (by decide)) (Or.inr (by decide)) (Or.inr (by decide)) (Or.inr (by decide)) (Or.inr (by decide)) (Or.inr (by decide))).trans pf8
    have pf9 := (yz13384.1 _ 9 (Or.inr (by decide)) (Or.inl (by rw [gx0]; decide)) (Or.inr (by decide)) (Or.inr (by decide)) (Or.inr (by decide)) (Or.inr (by decide)) (Or.inr (by decide)) (Or.inr (by decide))).trans pf9
    have pf10 := (yz13384.1 _ 10 (Or.inr (by decide)) (Or.inr (by decide)) (Or.inl (by rw [gx0]; decide)) (Or.inr (by decide)) (Or.inr (by decide)) (Or.inr (by decide)) (Or.inr (by decide)) (Or.inr (by decide))).trans pf10
    have pf11 := (yz13384.1 _ 0 (Or.inr (by decide)) (Or.inr (by decide)) (Or.inr (by decide)) (Or.inr (by decide)) (Or.inr (by decide)) (Or.inr (by decide)) (Or.inr (by decide)) (Or.inr (by decide))).trans pf11
    have hv13380 := (yz13384.1 _ 30 (Or.inr (by decide)) (Or.inr (by decide)) (Or.inr (by decide)) (Or.inr (by decide)) (Or.inr (by decide)) (Or.inr (by decide)) (Or.inr (by decide)) (Or.inr (by decide))).trans hv13380
    have vz13383 := (yz13384.2 _ _ ).trans vz13383
    have hfr : (∀ b j : Nat, (tag b ≠ 44 ∨ j ≠ 9) → (tag b ≠ 44 ∨ j ≠ 12) → (tag b ≠ 46 ∨ j ≠ 8) → (tag b ≠ 46 ∨ j ≠ 9) → (tag b ≠ 46 ∨ j ≠ 10) → (tag b ≠ 46 ∨ j ≠ 11) → (tag b ≠ 46 ∨ j ≠ 12) → (tag b ≠ 46 ∨ j ≠ 13) → (tag b ≠ 46 ∨ j ≠ 14) → (tag b ≠ 46 ∨ j ≠ 15) → fld F b j = fld Fo b j) ∧ (∀ b j : Nat, tag b ≠ 32 → tag b ≠ 34 → tag b ≠ 35 → tag b ≠ 36 → tag b ≠ 37 → elm F b j = elm Fo b j) := ⟨fun b j n44_9 n44_12 n46_8 n46_9 n46_10 n46_11 n46_12 n46_13 n46_14 n46_15 => (yz13384.1 b j n46_8 n46_9 n46_10 n46_11 n46_12 n46_13 n46_14 n46_15).trans (hfr.1 b j n44_9 n44_12 n46_8 n46_9 n46_10 n46_11 n46_12 n46_13 n46_14 n46_15), fun b j a32 a34 a35 a36 a37 => (yz13384.2 b j ).trans (hfr.2 b j a32 a34 a35 a36 a37)⟩
    have hrel := msr_of (fun j => yz13384.2 _ j ) (fun j => yz13384.2 _ j ) hrel
    have hstk := STK.tr hstk stz13384
    have hspt := SPT.tr hspt ptz13384
    refine lv_istore (lv' := [(4, .int z13384), (3, .int z13373), (1, .long z13372), (0, .ref p0)]) hx hb dX13_readHeir_52 hl (by decide) rfl (fun ls hl => ?_)
    refine lv_aload_n hx hb dX13_readHeir_54 rfl (lv_at hl 3 rfl) ?_
    refine t_get (C := RX13) (T := TX13) (N := 37) X hT m0 g0 rfl rfl 9 (by decide) qw_478 inlX13 rfl dX13_readHeir_55 (fun v13385 hv13385 ov13385 => ?_)
    obtain rfl : v13385 = .int soz13384 := hv13385.symm.trans qsoz13384
    refine lv_iconst (v := 5) hx hb dX13_readHeir_58 (by decide) ?_
    refine lv_icmp_ne (tgt := 63) hx hb dX13_readHeir_59 (by decide) (fun c13386 => ?_) (fun c13386 => ?_)
    · have w13387 := cv_ne (rfl : soz13384.toInt = soz13384.toInt) (by decide : (5 : Int32).toInt = 5) c13386
      have w13388 := (fun h9 => (fun h9 => (fun h9 => pxz13370_0 (fun e9 => h9 (stz13372 e9))) (fun e9 => h9 (stz13373 e9))) (fun e9 => h9 (stz13384 e9))) (by omega)
      have w13389 := (fun h9 => (fun h9 => (fun h9 => pxz13370_0 (fun e9 => h9 (stz13372 e9))) (fun e9 => h9 (stz13373 e9))) (fun e9 => h9 (stz13384 e9))) (by omega)
      refine lv_aload_n hx hb dX13_readHeir_63 rfl (lv_at hl 3 rfl) ?_
      refine lv_lload_n hx hb dX13_readHeir_64 rfl (lv_at hl 2 rfl) ?_
      refine lv_iconst (v := 2) hx hb dX13_readHeir_65 (by decide) ?_
      refine lv_aload_n hx hb dX13_readHeir_66 rfl (lv_at hl 3 rfl) ?_
      refine t_get (C := RX13) (T := TX13) (N := 37) X hT m0 g0 rfl rfl 4 (by decide) qw_477 inlX13 rfl dX13_readHeir_67 (fun v13390 hv13390 ov13390 => ?_)
      obtain rfl : v13390 = .ref x0 := hv13390.symm.trans pf0
      refine t_getN (C := RX12) (T := TX12) (N := 31) X hT mx0 gx0 rfl rfl 9 (by decide) (List.mem_of_getElem? (i := 13) rfl) inlX12 rfl dX13_readHeir_70 (fun v13391 hv13391 ov13391 => ?_)
      obtain rfl : v13391 = .int x9 := hv13391.symm.trans pf9
      have w13392 : 0 ≤ x6.toInt ∧ x6.toInt ≤ 20 := by omega
      refine t_cVv (n := 3) (C := RX13) (T := TX13) (N := 37) (As := [.long z13372, .int 2, .int x9]) (rest := []) X hT (km33_X13_names l G tag L F hT.2.2.2 p0 z13372 2 x9 x0 x1 x2 x6 m0 g0 (by decide) (by omega) mx0 gx0 pf0 mx1 gx1 pf1 mx2 gx2 pf2 (by omega) pf6 hrel) m0 g0 rfl rfl qw_608 qw_609 qw_610 qw_5 qw_611 ⟨rfl, by decide +kernel, by decide +kernel, by decide +kernel⟩ ⟨Nat.le_of_ble_eq_true rfl, Nat.le_of_ble_eq_true rfl⟩ hl rfl rfl (Nat.le_of_ble_eq_true rfl) dX13_readHeir_73 ⟨Nat.le_of_ble_eq_true rfl, Nat.le_of_ble_eq_true rfl⟩ (fun F H locs hT hz13393 => ?_)
      obtain ⟨yz13393, hrel, xz13393_0⟩ := hz13393
      have pf0 := (yz13393.1 _ 4 (Or.inr (by decide))).trans pf0
      have pf1 := (yz13393.1 _ 28 (Or.inr (by decide))).trans pf1
      have pf2 := (yz13393.1 _ 29 (Or.inr (by decide))).trans pf2
      have pf7 := (yz13393.1 _ 7 (Or.inr (by decide))).trans pf7
      have pf8 := (yz13393.1 _ 8 (Or.inr (by decide))).trans pf8
      have pf9 := (yz13393.1 _ 9 (Or.inr (by decide))).trans pf9
      have pf10 := (yz13393.1 _ 10 (Or.inr (by decide))).trans pf10
      have pf11 := (yz13393.1 _ 0 (Or.inr (by decide))).trans pf11
      have hv13380 := (yz13393.1 _ 30 (Or.inr (by decide))).trans hv13380
      have vz13383 := (yz13393.2 _ _ (by rw [gb13381]; decide) (by rw [gb13381]; decide) (by rw [gb13381]; decide)).trans vz13383
      have qsoz13384 := (yz13393.1 _ 9 (Or.inr (by decide))).trans qsoz13384
      have qspz13384 := (yz13393.1 _ 8 (Or.inr (by decide))).trans qspz13384
      have qfaz13384 := (yz13393.1 _ 13 (Or.inr (by decide))).trans qfaz13384
      have hfr : (∀ b j : Nat, (tag b ≠ 44 ∨ j ≠ 9) → (tag b ≠ 44 ∨ j ≠ 12) → (tag b ≠ 46 ∨ j ≠ 8) → (tag b ≠ 46 ∨ j ≠ 9) → (tag b ≠ 46 ∨ j ≠ 10) → (tag b ≠ 46 ∨ j ≠ 11) → (tag b ≠ 46 ∨ j ≠ 12) → (tag b ≠ 46 ∨ j ≠ 13) → (tag b ≠ 46 ∨ j ≠ 14) → (tag b ≠ 46 ∨ j ≠ 15) → fld F b j = fld Fo b j) ∧ (∀ b j : Nat, tag b ≠ 32 → tag b ≠ 34 → tag b ≠ 35 → tag b ≠ 36 → tag b ≠ 37 → elm F b j = elm Fo b j) := ⟨fun b j n44_9 n44_12 n46_8 n46_9 n46_10 n46_11 n46_12 n46_13 n46_14 n46_15 => (yz13393.1 b j n44_12).trans (hfr.1 b j n44_9 n44_12 n46_8 n46_9 n46_10 n46_11 n46_12 n46_13 n46_14 n46_15), fun b j a32 a34 a35 a36 a37 => (yz13393.2 b j a34 a35 a36).trans (hfr.2 b j a32 a34 a35 a36 a37)⟩
      obtain ⟨z13394, qz13394, hz13394⟩ := xz13393_0
      have rz13394 : 0 ≤ z13394.toInt ∧ z13394.toInt ≤ 32 := by omega
      refine lv_aload_n hx hb dX13_readHeir_76 rfl (lv_at hl 3 rfl) ?_
      refine t_get (C := RX13) (T := TX13) (N := 37) X hT m0 g0 rfl rfl 4 (by decide) qw_477 inlX13 rfl dX13_readHeir_77 (fun v13395 hv13395 ov13395 => ?_)
      obtain rfl : v13395 = .ref x0 := hv13395.symm.trans pf0
      refine t_getN (C := RX12) (T := TX12) (N := 31) X hT mx0 gx0 rfl rfl 23 (by decide) (List.mem_of_getElem? (i := 27) rfl) inlX12 rfl dX13_readHeir_80 (fun v13396 hv13396 ov13396 => ?_)
      obtain ⟨b13397, rfl, mb13397, gb13397⟩ := okV_r ov13396
      have gb13397 : tag b13397 = 32 := tg_of gb13397
      refine lv_aload_n hx hb dX13_readHeir_83 rfl (lv_at hl 3 rfl) ?_
      refine t_get (C := RX13) (T := TX13) (N := 37) X hT m0 g0 rfl rfl 4 (by decide) qw_477 inlX13 rfl dX13_readHeir_84 (fun v13398 hv13398 ov13398 => ?_)
      obtain rfl : v13398 = .ref x0 := hv13398.symm.trans pf0
      refine t_getN (C := RX12) (T := TX12) (N := 31) X hT mx0 gx0 rfl rfl 9 (by decide) (List.mem_of_getElem? (i := 13) rfl) inlX12 rfl dX13_readHeir_87 (fun v13399 hv13399 ov13399 => ?_)
      obtain rfl : v13399 = .int x9 := hv13399.symm.trans pf9
      refine lv_iload_n hx hb dX13_readHeir_90 rfl (lv_at hl 1 rfl) ?_
      refine t_ist X hT mb13397 gb13397 rfl (by omega) (show 0 ≤ (z13373 : Int32).toInt ∧ (z13373 : Int32).toInt ≤ 3 from (by omega)) dX13_readHeir_91 (fun F H locs hT v13400 h1v13400 h2v13400 => ?_)
      have pf0 := (h2v13400 _ _).trans pf0
      have pf1 := (h2v13400 _ _).trans pf1
      have pf2 := (h2v13400 _ _).trans pf2
      have pf7 := (h2v13400 _ _).trans pf7
      have pf8 := (h2v13400 _ _).trans pf8
      have pf9 := (h2v13400 _ _).trans pf9
      have pf10 := (h2v13400 _ _).trans pf10
      have pf11 := (h2v13400 _ _).trans pf11
      have hv13380 := (h2v13400 _ _).trans hv13380
      have vz13383 := (h1v13400 _ _ (Or.inl (tne gb13381 gb13397 (by decide)))).trans vz13383
      have qsoz13384 := (h2v13400 _ _).trans qsoz13384
      have qspz13384 := (h2v13400 _ _).trans qspz13384
      have qfaz13384 := (h2v13400 _ _).trans qfaz13384
      have qz13394 := (h2v13400 _ _).trans qz13394
      have hv13396 := (h2v13400 _ _).trans hv13396
      have hfr : (∀ b j : Nat, (tag b ≠ 44 ∨ j ≠ 9) → (tag b ≠ 44 ∨ j ≠ 12) → (tag b ≠ 46 ∨ j ≠ 8) → (tag b ≠ 46 ∨ j ≠ 9) → (tag b ≠ 46 ∨ j ≠ 10) → (tag b ≠ 46 ∨ j ≠ 11) → (tag b ≠ 46 ∨ j ≠ 12) → (tag b ≠ 46 ∨ j ≠ 13) → (tag b ≠ 46 ∨ j ≠ 14) → (tag b ≠ 46 ∨ j ≠ 15) → fld F b j = fld Fo b j) ∧ (∀ b j : Nat, tag b ≠ 32 → tag b ≠ 34 → tag b ≠ 35 → tag b ≠ 36 → tag b ≠ 37 → elm F b j = elm Fo b j) := ⟨fun b j n44_9 n44_12 n46_8 n46_9 n46_10 n46_11 n46_12 n46_13 n46_14 n46_15 => (h2v13400 b j).trans (hfr.1 b j n44_9 n44_12 n46_8 n46_9 n46_10 n46_11 n46_12 n46_13 n46_14 n46_15), fun b j a32 a34 a35 a36 a37 => (h1v13400 b j (Or.inl (at_ne gb13397 a32))).trans (hfr.2 b j a32 a34 a35 a36 a37)⟩
      have hrel := msr_of (fun j => h1v13400 _ j (Or.inl (tne gx1 gb13397 (by decide)))) (fun j => h1v13400 _ j (Or.inl (tne gx2 gb13397 (by decide)))) hrel
      refine lv_aload_n hx hb dX13_readHeir_92 rfl (lv_at hl 3 rfl) ?_
      refine t_get (C := RX13) (T := TX13) (N := 37) X hT m0 g0 rfl rfl 4 (by decide) qw_477 inlX13 rfl dX13_readHeir_93 (fun v13401 hv13401 ov13401 => ?_)
      obtain rfl : v13401 = .ref x0 := hv13401.symm.trans pf0
      refine t_getN (C := RX12) (T := TX12) (N := 31) X hT mx0 gx0 rfl rfl 30 (by decide) (List.mem_of_getElem? (i := 34) rfl) inlX12 rfl dX13_readHeir_96 (fun v13402 hv13402 ov13402 => ?_)
      obtain rfl : v13402 = .ref b13381 := hv13402.symm.trans hv13380
      refine lv_sipush (v := 204) hx hb dX13_readHeir_99 (by decide) ?_
      refine lv_aload_n hx hb dX13_readHeir_102 rfl (lv_at hl 3 rfl) ?_
      refine t_get (C := RX13) (T := TX13) (N := 37) X hT m0 g0 rfl rfl 4 (by decide) qw_477 inlX13 rfl dX13_readHeir_103 (fun v13403 hv13403 ov13403 => ?_)
      obtain rfl : v13403 = .ref x0 := hv13403.symm.trans pf0
      refine t_getN (C := RX12) (T := TX12) (N := 31) X hT mx0 gx0 rfl rfl 9 (by decide) (List.mem_of_getElem? (i := 13) rfl) inlX12 rfl dX13_readHeir_106 (fun v13404 hv13404 ov13404 => ?_)
      obtain rfl : v13404 = .int x9 := hv13404.symm.trans pf9
      refine lv_iadd hx hb dX13_readHeir_109 ?_
      refine lv_topi (fun z13405 ez13405 => ?_)
      have hz13405 : z13405.toInt = 204 + x9.toInt := ar_add ez13405 (by decide : (204 : Int32).toInt = 204) (rfl : x9.toInt = x9.toInt) (by omega) (by omega)
      have rz13405 : 204 ≤ z13405.toInt ∧ z13405.toInt ≤ 209 := by omega
      refine lv_iload hx hb dX13_readHeir_110 (lv_at hl 0 rfl) ?_
      refine t_ist X hT mb13381 gb13381 rfl (by omega) (row_fv (by omega) (Or.inr (Or.inl (by omega)))) dX13_readHeir_112 (fun F H locs hT v13406 h1v13406 h2v13406 => ?_)
      have pf0 := (h2v13406 _ _).trans pf0
      have pf1 := (h2v13406 _ _).trans pf1
      have pf2 := (h2v13406 _ _).trans pf2
      have pf7 := (h2v13406 _ _).trans pf7
      have pf8 := (h2v13406 _ _).trans pf8
      have pf9 := (h2v13406 _ _).trans pf9
      have pf10 := (h2v13406 _ _).trans pf10
      have pf11 := (h2v13406 _ _).trans pf11
      have hv13380 := (h2v13406 _ _).trans hv13380
      have vz13383 := (h1v13406 _ _ (Or.inr (ine (by omega) (by omega) (by omega)))).trans vz13383
      have qsoz13384 := (h2v13406 _ _).trans qsoz13384
      have qspz13384 := (h2v13406 _ _).trans qspz13384
      have qfaz13384 := (h2v13406 _ _).trans qfaz13384
      have qz13394 := (h2v13406 _ _).trans qz13394
      have hv13396 := (h2v13406 _ _).trans hv13396
      have v13400 := (h1v13406 _ _ (Or.inl (tne gb13397 gb13381 (by decide)))).trans v13400
      have hfr : (∀ b j : Nat, (tag b ≠ 44 ∨ j ≠ 9) → (tag b ≠ 44 ∨ j ≠ 12) → (tag b ≠ 46 ∨ j ≠ 8) → (tag b ≠ 46 ∨ j ≠ 9) → (tag b ≠ 46 ∨ j ≠ 10) → (tag b ≠ 46 ∨ j ≠ 11) → (tag b ≠ 46 ∨ j ≠ 12) → (tag b ≠ 46 ∨ j ≠ 13) → (tag b ≠ 46 ∨ j ≠ 14) → (tag b ≠ 46 ∨ j ≠ 15) → fld F b j = fld Fo b j) ∧ (∀ b j : Nat, tag b ≠ 32 → tag b ≠ 34 → tag b ≠ 35 → tag b ≠ 36 → tag b ≠ 37 → elm F b j = elm Fo b j) := ⟨fun b j n44_9 n44_12 n46_8 n46_9 n46_10 n46_11 n46_12 n46_13 n46_14 n46_15 => (h2v13406 b j).trans (hfr.1 b j n44_9 n44_12 n46_8 n46_9 n46_10 n46_11 n46_12 n46_13 n46_14 n46_15), fun b j a32 a34 a35 a36 a37 => (h1v13406 b j (Or.inl (at_ne gb13381 a37))).trans (hfr.2 b j a32 a34 a35 a36 a37)⟩
      have hrel := msr_of (fun j => h1v13406 _ j (Or.inl (tne gx1 gb13381 (by decide)))) (fun j => h1v13406 _ j (Or.inl (tne gx2 gb13381 (by decide)))) hrel
      refine lv_aload_n hx hb dX13_readHeir_113 rfl (lv_at hl 3 rfl) ?_
      refine t_get (C := RX13) (T := TX13) (N := 37) X hT m0 g0 rfl rfl 4 (by decide) qw_477 inlX13 rfl dX13_readHeir_114 (fun v13407 hv13407 ov13407 => ?_)
      obtain rfl : v13407 = .ref x0 := hv13407.symm.trans pf0
      refine lv_dup hx hb dX13_readHeir_117 rfl ?_
      refine t_getN (C := RX12) (T := TX12) (N := 31) X hT mx0 gx0 rfl rfl 9 (by decide) (List.mem_of_getElem? (i := 13) rfl) inlX12 rfl dX13_readHeir_118 (fun v13408 hv13408 ov13408 => ?_)
      obtain rfl : v13408 = .int x9 := hv13408.symm.trans pf9
      refine lv_iconst (v := 1) hx hb dX13_readHeir_121 (by decide) ?_
      refine lv_iadd hx hb dX13_readHeir_122 ?_
      refine lv_topi (fun z13409 ez13409 => ?_)
      have hz13409 : z13409.toInt = x9.toInt + 1 := ar_add ez13409 (rfl : x9.toInt = x9.toInt) (by decide : (1 : Int32).toInt = 1) (by omega) (by omega)
      have rz13409 : 1 ≤ z13409.toInt ∧ z13409.toInt ≤ 6 := by omega
      refine t_putN (C := RX12) (T := TX12) (N := 31) (v := .int z13409) X hT mx0 gx0 rfl tyX12 tyX12_ok nmX12 rfl 9 (by decide) (List.mem_of_getElem? (i := 13) rfl) inlX12 rfl (by first | rfl | decide) (by first | rfl | decide) rfl (⟨_, rfl, (show 0 ≤ (z13409 : Int32).toInt from (by omega)), (show (z13409 : Int32).toInt ≤ 6 from (by omega))⟩) dX13_readHeir_123 (fun F H locs hT v13410 h1v13410 h2v13410 => ?_)
      have pf0 := (h1v13410 _ _ (Or.inr (by decide))).trans pf0
      have pf1 := (h1v13410 _ _ (Or.inr (by decide))).trans pf1
      have pf2 := (h1v13410 _ _ (Or.inr (by decide))).trans pf2
      have pf7 := (h1v13410 _ _ (Or.inr (by decide))).trans pf7
      have pf8 := (h1v13410 _ _ (Or.inr (by decide))).trans pf8
      have pf10 := (h1v13410 _ _ (Or.inr (by decide))).trans pf10
      have pf11 := (h1v13410 _ _ (Or.inr (by decide))).trans pf11
      have hv13380 := (h1v13410 _ _ (Or.inr (by decide))).trans hv13380
      have vz13383 := (h2v13410 _ _).trans vz13383
      have qsoz13384 := (h1v13410 _ _ (Or.inl (tne g0 gx0 (by decide)))).trans qsoz13384
      have qspz13384 := (h1v13410 _ _ (Or.inr (by decide))).trans qspz13384
      have qfaz13384 := (h1v13410 _ _ (Or.inr (by decide))).trans qfaz13384
      have qz13394 := (h1v13410 _ _ (Or.inr (by decide))).trans qz13394
      have hv13396 := (h1v13410 _ _ (Or.inr (by decide))).trans hv13396
      have v13400 := (h2v13410 _ _).trans v13400
      have v13406 := (h2v13410 _ _).trans v13406
      have hfr : (∀ b j : Nat, (tag b ≠ 44 ∨ j ≠ 9) → (tag b ≠ 44 ∨ j ≠ 12) → (tag b ≠ 46 ∨ j ≠ 8) → (tag b ≠ 46 ∨ j ≠ 9) → (tag b ≠ 46 ∨ j ≠ 10) → (tag b ≠ 46 ∨ j ≠ 11) → (tag b ≠ 46 ∨ j ≠ 12) → (tag b ≠ 46 ∨ j ≠ 13) → (tag b ≠ 46 ∨ j ≠ 14) → (tag b ≠ 46 ∨ j ≠ 15) → fld F b j = fld Fo b j) ∧ (∀ b j : Nat, tag b ≠ 32 → tag b ≠ 34 → tag b ≠ 35 → tag b ≠ 36 → tag b ≠ 37 → elm F b j = elm Fo b j) := ⟨fun b j n44_9 n44_12 n46_8 n46_9 n46_10 n46_11 n46_12 n46_13 n46_14 n46_15 => (h1v13410 b j (fr_ne gx0 n44_9)).trans (hfr.1 b j n44_9 n44_12 n46_8 n46_9 n46_10 n46_11 n46_12 n46_13 n46_14 n46_15), fun b j a32 a34 a35 a36 a37 => (h2v13410 b j).trans (hfr.2 b j a32 a34 a35 a36 a37)⟩
      have hrel := msr_of (fun j => h2v13410 _ j) (fun j => h2v13410 _ j) hrel
      have hpl : PLr z13394 x7 x8 z13409 x10 x11 := ⟨by omega, fun _ => by omega⟩
      exact t_vret hQ X hT ⟨hfr, hrel, ⟨soz13384, spz13384, faz13384, qsoz13384, qspz13384, qfaz13384, (by omega), (by omega), (by omega), hstk, hspt, hkf⟩, ⟨z13394, x7, x8, z13409, x10, x11, qz13394, pf7, pf8, v13410, pf10, pf11, (by omega), (by omega), (by omega), (by omega), (by omega), (by omega), hpl⟩⟩ (Nat.le_of_ble_eq_true rfl) (Nat.le_of_ble_eq_true rfl) dX13_readHeir_126
    · have w13411 := cv_eq (rfl : soz13384.toInt = soz13384.toInt) (by decide : (5 : Int32).toInt = 5) c13386
      exact t_vret hQ X hT ⟨hfr, hrel, ⟨soz13384, spz13384, faz13384, qsoz13384, qspz13384, qfaz13384, (by omega), (by omega), (by omega), hstk, hspt, hkf⟩, ⟨x6, x7, x8, x9, x10, x11, pf6, pf7, pf8, pf9, pf10, pf11, (by omega), (by omega), (by omega), (by omega), (by omega), (by omega), hpl⟩⟩ (Nat.le_of_ble_eq_true rfl) (Nat.le_of_ble_eq_true rfl) dX13_readHeir_62
  · have w13412 := cv_eq (rfl : soz13373.toInt = soz13373.toInt) (by decide : (5 : Int32).toInt = 5) c13375
    refine lv_iconst (v := 0) hx hb dX13_readHeir_34 (by decide) ?_
    refine lv_goto (tgt := 49) hx hb dX13_readHeir_35 (by decide) ?_
    refine t_cVi (n := 2) (C := RX13) (T := TX13) (N := 37) (As := [.int 0, .int 0]) (rest := []) X hT (km32_X13_readWhole l G tag L F hT.2.2.2 p0 0 0 x0 x1 x2 soz13373 spz13373 faz13373 m0 g0 (by decide) (by decide) mx0 gx0 pf0 mx1 gx1 pf1 mx2 gx2 pf2 (by omega) qsoz13373 (by omega) qspz13373 (by omega) qfaz13373 hkf) m0 g0 rfl rfl qw_560 qw_561 qw_562 qw_5 qw_563 ⟨rfl, by decide +kernel, by decide +kernel, by decide +kernel⟩ ⟨Nat.le_of_ble_eq_true rfl, Nat.le_of_ble_eq_true rfl⟩ hl rfl rfl (Nat.le_of_ble_eq_true rfl) dX13_readHeir_49 ⟨Nat.le_of_ble_eq_true rfl, Nat.le_of_ble_eq_true rfl⟩ (fun z13413 F H locs hT hz13413 => ?_)
    obtain ⟨hz13413, yz13413, ⟨soz13413, spz13413, faz13413, qsoz13413, qspz13413, qfaz13413, rsoz13413, rspz13413, rfaz13413, stz13413, ptz13413, hkf⟩⟩ := hz13413
    have pf0 := (yz13413.1 _ 4 (Or.inr (by decide)) (Or.inr (by decide)) (Or.inr (by decide)) (Or.inr (by decide)) (Or.inr (by decide)) (Or.inr (by decide)) (Or.inr (by decide)) (Or.inr (by decide))).trans pf0
    have pf1 := (yz13413.1 _ 28 (Or.inr (by decide)) (Or.inr (by decide)) (Or.inr (by decide)) (Or.inr (by decide)) (Or.inr (by decide)) (Or.inr (by decide)) (Or.inr (by decide)) (Or.inr (by decide))).trans pf1
    have pf2 := (yz13413.1 _ 29 (Or.inr (by decide)) (Or.inr (by decide)) (Or.inr (by decide)) (Or.inr (by decide)) (Or.inr (by decide)) (Or.inr (by decide)) (Or.inr (by decide)) (Or.inr (by decide))).trans pf2
    have pf6 := (yz13413.1 _ 12 (Or.inr (by decide)) (Or.inr (by decide)) (Or.inr (by decide)) (Or.inr (by decide)) (Or.inl (by rw [gx0]; decide)) (Or.inr (by decide)) (Or.inr (by decide)) (Or.inr (by decide))).trans pf6
    have pf7 := (yz13413.1 _ 7 (Or.inr (by decide)) (Or.inr (by decide)) (Or.inr (by decide)) (Or.inr (by decide)) (Or.inr (by decide)) (Or.inr (by decide)) (Or.inr (by decide)) (Or.inr (by decide))).trans pf7
    have pf8 := (yz13413.1 _ 8 (Or.inl (by rw [gx0]; decide)) (Or.inr (by decide)) (Or.inr (by decide)) (Or.inr (by decide)) (Or.inr (by decide)) (Or.inr (by decide)) (Or.inr (by decide)) (Or.inr (by decide))).trans pf8
    have pf9 := (yz13413.1 _ 9 (Or.inr (by decide)) (Or.inl (by rw [gx0]; decide)) (Or.inr (by decide)) (Or.inr (by decide)) (Or.inr (by decide)) (Or.inr (by decide)) (Or.inr (by decide)) (Or.inr (by decide))).trans pf9
    have pf10 := (yz13413.1 _ 10 (Or.inr (by decide)) (Or.inr (by decide)) (Or.inl (by rw [gx0]; decide)) (Or.inr (by decide)) (Or.inr (by decide)) (Or.inr (by decide)) (Or.inr (by decide)) (Or.inr (by decide))).trans pf10
    have pf11 := (yz13413.1 _ 0 (Or.inr (by decide)) (Or.inr (by decide)) (Or.inr (by decide)) (Or.inr (by decide)) (Or.inr (by decide)) (Or.inr (by decide)) (Or.inr (by decide)) (Or.inr (by decide))).trans pf11
    have hfr : (∀ b j : Nat, (tag b ≠ 44 ∨ j ≠ 9) → (tag b ≠ 44 ∨ j ≠ 12) → (tag b ≠ 46 ∨ j ≠ 8) → (tag b ≠ 46 ∨ j ≠ 9) → (tag b ≠ 46 ∨ j ≠ 10) → (tag b ≠ 46 ∨ j ≠ 11) → (tag b ≠ 46 ∨ j ≠ 12) → (tag b ≠ 46 ∨ j ≠ 13) → (tag b ≠ 46 ∨ j ≠ 14) → (tag b ≠ 46 ∨ j ≠ 15) → fld F b j = fld Fo b j) ∧ (∀ b j : Nat, tag b ≠ 32 → tag b ≠ 34 → tag b ≠ 35 → tag b ≠ 36 → tag b ≠ 37 → elm F b j = elm Fo b j) := ⟨fun b j n44_9 n44_12 n46_8 n46_9 n46_10 n46_11 n46_12 n46_13 n46_14 n46_15 => (yz13413.1 b j n46_8 n46_9 n46_10 n46_11 n46_12 n46_13 n46_14 n46_15).trans (hfr.1 b j n44_9 n44_12 n46_8 n46_9 n46_10 n46_11 n46_12 n46_13 n46_14 n46_15), fun b j a32 a34 a35 a36 a37 => (yz13413.2 b j ).trans (hfr.2 b j a32 a34 a35 a36 a37)⟩
    have hrel := msr_of (fun j => yz13413.2 _ j ) (fun j => yz13413.2 _ j ) hrel
    have hstk := STK.tr hstk stz13413
    have hspt := SPT.tr hspt ptz13413
    have k5z13413 : soz13413.toInt = 5 := stz13413 (by omega)
    refine lv_istore (lv' := [(4, .int z13413), (3, .int z13373), (1, .long z13372), (0, .ref p0)]) hx hb dX13_readHeir_52 hl (by decide) rfl (fun ls hl => ?_)
    refine lv_aload_n hx hb dX13_readHeir_54 rfl (lv_at hl 3 rfl) ?_
    refine t_get (C := RX13) (T := TX13) (N := 37) X hT m0 g0 rfl rfl 9 (by decide) qw_478 inlX13 rfl dX13_readHeir_55 (fun v13414 hv13414 ov13414 => ?_)
    obtain rfl : v13414 = .int soz13413 := hv13414.symm.trans qsoz13413
    refine lv_iconst (v := 5) hx hb dX13_readHeir_58 (by decide) ?_
    refine lv_icmp_ne (tgt := 63) hx hb dX13_readHeir_59 (by decide) (fun c13415 => ?_) (fun c13415 => ?_)
    · have w13416 := cv_ne (rfl : soz13413.toInt = soz13413.toInt) (by decide : (5 : Int32).toInt = 5) c13415
      exfalso
      omega
    · have w13417 := cv_eq (rfl : soz13413.toInt = soz13413.toInt) (by decide : (5 : Int32).toInt = 5) c13415
      exact t_vret hQ X hT ⟨hfr, hrel, ⟨soz13413, spz13413, faz13413, qsoz13413, qspz13413, qfaz13413, (by omega), (by omega), (by omega), hstk, hspt, hkf⟩, ⟨x6, x7, x8, x9, x10, x11, pf6, pf7, pf8, pf9, pf10, pf11, (by omega), (by omega), (by omega), (by omega), (by omega), (by omega), hpl⟩⟩ (Nat.le_of_ble_eq_true rfl) (Nat.le_of_ble_eq_true rfl) dX13_readHeir_62
