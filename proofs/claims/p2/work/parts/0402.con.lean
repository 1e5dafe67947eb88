set_option maxHeartbeats 4000000 in
set_option maxRecDepth 100000 in
theorem km15_X13_begins (l : Launch) (G : KG) (tag : Nat → Nat) (L : List Nat) (Fo : Nat → va_E) (ho : okT G ttC tag L Fo) (p0 : Nat) (p1 : Int32) (p2 : Int32) (x0 : Nat) (x1 : Nat) (x2 : Nat) (x3 : Int32) (x4 : Int32) (x5 : Int32) (x6 : Int32) (m0 : p0 ∈ L) (g0 : tag p0 = 46) (mx0 : x0 ∈ L) (gx0 : tag x0 = 44) (pf0 : fld Fo p0 4 = .ref x0) (mx1 : x1 ∈ L) (gx1 : tag x1 = 35) (pf1 : fld Fo x0 28 = .ref x1) (mx2 : x2 ∈ L) (gx2 : tag x2 = 36) (pf2 : fld Fo x0 29 = .ref x2) (hx3 : 0 ≤ x3.toInt ∧ x3.toInt ≤ 5) (pf3 : fld Fo p0 9 = .int x3) (hx4 : 0 ≤ x4.toInt ∧ x4.toInt ≤ 1000) (pf4 : fld Fo p0 8 = .int x4) (hx5 : 0 ≤ x5.toInt ∧ x5.toInt ≤ 7) (pf5 : fld Fo p0 13 = .int x5) (hx6 : 0 ≤ x6.toInt ∧ x6.toInt ≤ 12) (pf6 : fld Fo x0 0 = .int x6) (hkf : KF x3 x5) : TMv l yX13_begins cX13_begins 3 { frames := 2, cells := 0, slots := 0, locals := 43 } G ttC tag L Fo [.ref p0, .int p1, .int p2] (fun F1 => ((∀ b j : Nat, (tag b ≠ 46 ∨ j ≠ 8) → (tag b ≠ 46 ∨ j ≠ 9) → (tag b ≠ 46 ∨ j ≠ 10) → (tag b ≠ 46 ∨ j ≠ 11) → (tag b ≠ 46 ∨ j ≠ 12) → (tag b ≠ 46 ∨ j ≠ 13) → (tag b ≠ 46 ∨ j ≠ 14) → (tag b ≠ 46 ∨ j ≠ 15) → fld F1 b j = fld Fo b j) ∧ (∀ b j : Nat, elm F1 b j = elm Fo b j)) ∧ (∃ so sp fa : Int32, fld F1 p0 9 = .int so ∧ fld F1 p0 8 = .int sp ∧ fld F1 p0 13 = .int fa ∧ (0 ≤ so.toInt ∧ so.toInt ≤ 5) ∧ (0 ≤ sp.toInt ∧ sp.toInt ≤ 1000) ∧ (0 ≤ fa.toInt ∧ fa.toInt ≤ 7) ∧ STK x3 so ∧ SPT x3 x4 so sp ∧ KF so fa ∧ (so.toInt ≠ 5 → p1.toInt ≠ p2.toInt ∧ 1 ≤ x6.toInt))) := by
  refine t_bodyv (y := yX13_begins) (cd := cX13_begins) (mL := 3) (rm := { frames := 2, cells := 0, slots := 0, locals := 43 }) (av := [.ref p0, .int p1, .int p2]) (by decide) (Nat.le_of_ble_eq_true rfl) ho ?_
  intro p e s m args below meth c ls A Q hQ X hT hl
  have hx := X.1.1
  have hb := X.1.2.1
  have hl : lv_has ls 3 [(0, .ref p0), (1, .int p1), (2, .int p2)] := hl
  have rp1 := rg_all p1
  have rp2 := rg_all p2
  obtain ⟨F, hFo⟩ : ∃ F : Nat → va_E, F = Fo := ⟨_, rfl⟩
  rw [← hFo] at hT pf0 pf1 pf2 pf3 pf4 pf5 pf6
  have hfr : (∀ b j : Nat, (tag b ≠ 46 ∨ j ≠ 8) → (tag b ≠ 46 ∨ j ≠ 9) → (tag b ≠ 46 ∨ j ≠ 10) → (tag b ≠ 46 ∨ j ≠ 11) → (tag b ≠ 46 ∨ j ≠ 12) → (tag b ≠ 46 ∨ j ≠ 13) → (tag b ≠ 46 ∨ j ≠ 14) → (tag b ≠ 46 ∨ j ≠ 15) → fld F b j = fld Fo b j) ∧ (∀ b j : Nat, elm F b j = elm Fo b j) := by
    rw [hFo]
    exact ⟨by intros; rfl, by intros; rfl⟩
  have hstk : STK x3 x3 := STK.rf
  have hspt : SPT x3 x4 x3 x4 := SPT.rf
  refine lv_iload_n hx hb dX13_begins_0 rfl (lv_at hl 1 rfl) ?_
  refine lv_iload_n hx hb dX13_begins_1 rfl (lv_at hl 2 rfl) ?_
  refine lv_icmp_ne (tgt := 10) hx hb dX13_begins_2 (by decide) (fun c7445 => ?_) (fun c7445 => ?_)
  · have w7446 := cv_ne (rfl : p1.toInt = p1.toInt) (rfl : p2.toInt = p2.toInt) c7445
    refine lv_aload_n hx hb dX13_begins_10 rfl (lv_at hl 0 rfl) ?_
    refine t_get (C := RX13) (T := TX13) (N := 37) X hT m0 g0 rfl rfl 4 (by decide) qw_477 inlX13 rfl dX13_begins_11 (fun v7447 hv7447 ov7447 => ?_)
    obtain rfl : v7447 = .ref x0 := hv7447.symm.trans pf0
    refine t_getN (C := RX12) (T := TX12) (N := 31) X hT mx0 gx0 rfl rfl 0 (by decide) (List.mem_of_getElem? (i := 4) rfl) inlX12 rfl dX13_begins_14 (fun v7448 hv7448 ov7448 => ?_)
    obtain rfl : v7448 = .int x6 := hv7448.symm.trans pf6
    refine lv_if_ne (tgt := 26) hx hb dX13_begins_17 (by decide) (fun c7449 => ?_) (fun c7449 => ?_)
    · have w7450 := cv_ne (rfl : x6.toInt = x6.toInt) (by decide : (0 : Int32).toInt = 0) c7449
      refine lv_aload_n hx hb dX13_begins_26 rfl (lv_at hl 0 rfl) ?_
      refine t_cVv (n := 0) (C := RX13) (T := TX13) (N := 37) (As := []) (rest := []) X hT (km14_X13_goesOn l G tag L F hT.2.2.2 p0 x0 x1 x2 x3 x4 x5 m0 g0 mx0 gx0 pf0 mx1 gx1 pf1 mx2 gx2 pf2 (by omega) pf3 (by omega) pf4 (by omega) pf5 hkf) m0 g0 rfl rfl qw_508 qw_509 qw_510 qw_5 qw_511 ⟨rfl, by decide +kernel, by decide +kernel, by decide +kernel⟩ ⟨Nat.le_of_ble_eq_true rfl, Nat.le_of_ble_eq_true rfl⟩ hl rfl rfl (Nat.le_of_ble_eq_true rfl) dX13_begins_27 ⟨Nat.le_of_ble_eq_true rfl, Nat.le_of_ble_eq_true rfl⟩ (fun F H locs hT hz7451 => ?_)
      obtain ⟨yz7451, ⟨soz7451, spz7451, faz7451, qsoz7451, qspz7451, qfaz7451, rsoz7451, rspz7451, rfaz7451, stz7451, ptz7451, hkf⟩⟩ := hz7451
      have pf0 := (yz7451.1 _ 4 (Or.inr (by decide)) (Or.inr (by decide)) (Or.inr (by decide)) (Or.inr (by decide)) (Or.inr (by decide)) (Or.inr (by decide))).trans pf0
      have pf1 := (yz7451.1 _ 28 (Or.inr (by decide)) (Or.inr (by decide)) (Or.inr (by decide)) (Or.inr (by decide)) (Or.inr (by decide)) (Or.inr (by decide))).trans pf1
      have pf2 := (yz7451.1 _ 29 (Or.inr (by decide)) (Or.inr (by decide)) (Or.inr (by decide)) (Or.inr (by decide)) (Or.inr (by decide)) (Or.inr (by decide))).trans pf2
      have pf5 := (yz7451.1 _ 13 (Or.inr (by decide)) (Or.inr (by decide)) (Or.inr (by decide)) (Or.inr (by decide)) (Or.inr (by decide)) (Or.inr (by decide))).trans pf5
      have pf6 := (yz7451.1 _ 0 (Or.inr (by decide)) (Or.inr (by decide)) (Or.inr (by decide)) (Or.inr (by decide)) (Or.inr (by decide)) (Or.inr (by decide))).trans pf6
      have hfr : (∀ b j : Nat, (tag b ≠ 46 ∨ j ≠ 8) → (tag b ≠ 46 ∨ j ≠ 9) → (tag b ≠ 46 ∨ j ≠ 10) → (tag b ≠ 46 ∨ j ≠ 11) → (tag b ≠ 46 ∨ j ≠ 12) → (tag b ≠ 46 ∨ j ≠ 13) → (tag b ≠ 46 ∨ j ≠ 14) → (tag b ≠ 46 ∨ j ≠ 15) → fld F b j = fld Fo b j) ∧ (∀ b j : Nat, elm F b j = elm Fo b j) := ⟨fun b j n46_8 n46_9 n46_10 n46_11 n46_12 n46_13 n46_14 n46_15 => (yz7451.1 b j n46_8 n46_9 n46_10 n46_11 n46_12 n46_15).trans (hfr.1 b j n46_8 n46_9 n46_10 n46_11 n46_12 n46_13 n46_14 n46_15), fun b j  => (yz7451.2 b j ).trans (hfr.2 b j )⟩
      have hstk := STK.tr hstk stz7451
      have hspt := SPT.tr hspt ptz7451
      have usz7451 : x3.toInt = 5 → soz7451.toInt = 5 := stz7451
      exact t_vret hQ X hT ⟨hfr, ⟨soz7451, spz7451, faz7451, qsoz7451, qspz7451, qfaz7451, (by omega), (by omega), (by omega), hstk, hspt, hkf, (by omega)⟩⟩ (Nat.le_of_ble_eq_true rfl) (Nat.le_of_ble_eq_true rfl) dX13_begins_30
    · have w7452 := cv_eq (rfl : x6.toInt = x6.toInt) (by decide : (0 : Int32).toInt = 0) c7449
      refine lv_aload_n hx hb dX13_begins_20 rfl (lv_at hl 0 rfl) ?_
      refine lv_bipush (v := 6) hx hb dX13_begins_21 (by decide) ?_
      refine t_cVv (n := 1) (C := RX13) (T := TX13) (N := 37) (As := [.int 6]) (rest := []) X hT (km10_X13_flaw l G tag L F hT.2.2.2 p0 6 x0 x1 x2 x3 x4 x5 m0 g0 (by decide) mx0 gx0 pf0 mx1 gx1 pf1 mx2 gx2 pf2 (by omega) pf3 (by omega) pf4 (by omega) pf5 hkf) m0 g0 rfl rfl qw_548 qw_549 qw_550 qw_5 qw_551 ⟨rfl, by decide +kernel, by decide +kernel, by decide +kernel⟩ ⟨Nat.le_of_ble_eq_true rfl, Nat.le_of_ble_eq_true rfl⟩ hl rfl rfl (Nat.le_of_ble_eq_true rfl) dX13_begins_23 ⟨Nat.le_of_ble_eq_true rfl, Nat.le_of_ble_eq_true rfl⟩ (fun F H locs hT hz7453 => ?_)
      obtain ⟨yz7453, ⟨soz7453, spz7453, faz7453, qsoz7453, qspz7453, qfaz7453, rsoz7453, rspz7453, rfaz7453, stz7453, ptz7453, hkf, pxz7453_0⟩⟩ := hz7453
      have pf0 := (yz7453.1 _ 4 (Or.inr (by decide)) (Or.inr (by decide)) (Or.inr (by decide))).trans pf0
      have pf1 := (yz7453.1 _ 28 (Or.inr (by decide)) (Or.inr (by decide)) (Or.inr (by decide))).trans pf1
      have pf2 := (yz7453.1 _ 29 (Or.inr (by decide)) (Or.inr (by decide)) (Or.inr (by decide))).trans pf2
      have pf4 := (yz7453.1 _ 8 (Or.inr (by decide)) (Or.inr (by decide)) (Or.inr (by decide))).trans pf4
      have pf6 := (yz7453.1 _ 0 (Or.inr (by decide)) (Or.inr (by decide)) (Or.inr (by decide))).trans pf6
      have hfr : (∀ b j : Nat, (tag b ≠ 46 ∨ j ≠ 8) → (tag b ≠ 46 ∨ j ≠ 9) → (tag b ≠ 46 ∨ j ≠ 10) → (tag b ≠ 46 ∨ j ≠ 11) → (tag b ≠ 46 ∨ j ≠ 12) → (tag b ≠ 46 ∨ j ≠ 13) → (tag b ≠ 46 ∨ j ≠ 14) → (tag b ≠ 46 ∨ j ≠ 15) → fld F b j = fld Fo b j) ∧ (∀ b j : Nat, elm F b j = elm Fo b j) := ⟨fun b j n46_8 n46_9 n46_10 n46_11 n46_12 n46_13 n46_14 n46_15 => (yz7453.1 b j n46_9 n46_13 n46_14).trans (hfr.1 b j n46_8 n46_9 n46_10 n46_11 n46_12 n46_13 n46_14 n46_15), fun b j  => (yz7453.2 b j ).trans (hfr.2 b j )⟩
      have hstk := STK.tr hstk stz7453
      have hspt := SPT.tr hspt ptz7453
      have usz7453 : x3.toInt = 5 → soz7453.toInt = 5 := stz7453
      refine lv_aload_n hx hb dX13_begins_26 rfl (lv_at hl 0 rfl) ?_
      refine t_cVv (n := 0) (C := RX13) (T := TX13) (N := 37) (As := []) (rest := []) X hT (km14_X13_goesOn l G tag L F hT.2.2.2 p0 x0 x1 x2 soz7453 spz7453 faz7453 m0 g0 mx0 gx0 pf0 mx1 gx1 pf1 mx2 gx2 pf2 (by omega) qsoz7453 (by omega) qspz7453 (by omega) qfaz7453 hkf) m0 g0 rfl rfl qw_508 qw_509 qw_510 qw_5 qw_511 ⟨rfl, by decide +kernel, by decide +kernel, by decide +kernel⟩ ⟨Nat.le_of_ble_eq_true rfl, Nat.le_of_ble_eq_true rfl⟩ hl rfl rfl (Nat.le_of_ble_eq_true rfl) dX13_begins_27 ⟨Nat.le_of_ble_eq_true rfl, Nat.le_of_ble_eq_true rfl⟩ (fun F H locs hT hz7454 => ?_)
      obtain ⟨yz7454, ⟨soz7454, spz7454, faz7454, qsoz7454, qspz7454, qfaz7454, rsoz7454, rspz7454, rfaz7454, stz7454, ptz7454, hkf⟩⟩ := hz7454
      have pf0 := (yz7454.1 _ 4 (Or.inr (by decide)) (Or.inr (by decide)) (Or.inr (by decide)) (Or.inr (by decide)) (Or.inr (by decide)) (Or.inr (by decide))).trans pf0
      have pf1 := (yz7454.1 _ 28 (Or.inr (by decide)) (Or.inr (by decide)) (Or.inr (by decide)) (Or.inr (by decide)) (Or.inr (by decide)) (Or.inr (by decide))).trans pf1
      have pf2 := (yz7454.1 _ 29 (Or.inr (by decide)) (Or.inr (by decide)) (Or.inr (by decide)) (Or.inr (by decide)) (Or.inr (by decide)) (Or.inr (by decide))).trans pf2
      have pf6 := (yz7454.1 _ 0 (Or.inr (by decide)) (Or.inr (by decide)) (Or.inr (by decide)) (Or.inr (by decide)) (Or.inr (by decide)) (Or.inr (by decide))).trans pf6
      have qfaz7453 := (yz7454.1 _ 13 (Or.inr (by decide)) (Or.inr (by decide)) (Or.inr (by decide)) (Or.inr (by decide)) (Or.inr (by decide)) (Or.inr (by decide))).trans qfaz7453
      have hfr : (∀ b j : Nat, (tag b ≠ 46 ∨ j ≠ 8) → (tag b ≠ 46 ∨ j ≠ 9) → (tag b ≠ 46 ∨ j ≠ 10) → (tag b ≠ 46 ∨ j ≠ 11) → (tag b ≠ 46 ∨ j ≠ 12) → (tag b ≠ 46 ∨ j ≠ 13) → (tag b ≠ 46 ∨ j ≠ 14) → (tag b ≠ 46 ∨ j ≠ 15) → fld F b j = fld Fo b j) ∧ (∀ b j : Nat, elm F b j = elm Fo b j) := ⟨fun b j n46_8 n46_9 n46_10 n46_11 n46_12 n46_13 n46_14 n46_15 => (yz7454.1 b j n46_8 n46_9 n46_10 n46_11 n46_12 n46_15).trans (hfr.1 b j n46_8 n46_9 n46_10 n46_11 n46_12 n46_13 n46_14 n46_15), fun b j  => (yz7454.2 b j ).trans (hfr.2 b j )⟩
      have hstk := STK.tr hstk stz7454
      have hspt := SPT.tr hspt ptz7454
      have usz7454 : soz7453.toInt = 5 → soz7454.toInt = 5 := stz7454
      have k5z7454 : soz7454.toInt = 5 := stz7454 (by omega)
      exact t_vret hQ X hT ⟨hfr, ⟨soz7454, spz7454, faz7454, qsoz7454, qspz7454, qfaz7454, (by omega), (by omega), (by omega), hstk, hspt, hkf, (by omega)⟩⟩ (Nat.le_of_ble_eq_true rfl) (Nat.le_of_ble_eq_true rfl) dX13_begins_30
  · have w7455 := cv_eq (rfl : p1.toInt = p1.toInt) (rfl : p2.toInt = p2.toInt) c7445
    refine lv_aload_n hx hb dX13_begins_5 rfl (lv_at hl 0 rfl) ?_
    refine lv_iconst (v := 5) hx hb dX13_begins_6 (by decide) ?_
    refine t_cVv (n := 1) (C := RX13) (T := TX13) (N := 37) (As := [.int 5]) (rest := []) X hT (km10_X13_flaw l G tag L F hT.2.2.2 p0 5 x0 x1 x2 x3 x4 x5 m0 g0 (by decide) mx0 gx0 pf0 mx1 gx1 pf1 mx2 gx2 pf2 (by omega) pf3 (by omega) pf4 (by omega) pf5 hkf) m0 g0 rfl rfl qw_548 qw_549 qw_550 qw_5 qw_551 ⟨rfl, by decide +kernel, by decide +kernel, by decide +kernel⟩ ⟨Nat.le_of_ble_eq_true rfl, Nat.le_of_ble_eq_true rfl⟩ hl rfl rfl (Nat.le_of_ble_eq_true rfl) dX13_begins_7 ⟨Nat.le_of_ble_eq_true rfl, Nat.le_of_ble_eq_true rfl⟩ (fun F H locs hT hz7456 => ?_)
    obtain ⟨yz7456, ⟨soz7456, spz7456, faz7456, qsoz7456, qspz7456, qfaz7456, rsoz7456, rspz7456, rfaz7456, stz7456, ptz7456, hkf, pxz7456_0⟩⟩ := hz7456
    have pf0 := (yz7456.1 _ 4 (Or.inr (by decide)) (Or.inr (by decide)) (Or.inr (by decide))).trans pf0
    have pf1 := (yz7456.1 _ 28 (Or.inr (by decide)) (Or.inr (by decide)) (Or.inr (by decide))).trans pf1
    have pf2 := (yz7456.1 _ 29 (Or.inr (by decide)) (Or.inr (by decide)) (Or.inr (by decide))).trans pf2
    have pf4 := (yz7456.1 _ 8 (Or.inr (by decide)) (Or.inr (by decide)) (Or.inr (by decide))).trans pf4
    have pf6 := (yz7456.1 _ 0 (Or.inr (by decide)) (Or.inr (by decide)) (Or.inr (by decide))).trans pf6
    have hfr : (∀ b j : Nat, (tag b ≠ 46 ∨ j ≠ 8) → (tag b ≠ 46 ∨ j ≠ 9) → (tag b ≠ 46 ∨ j ≠ 10) → (tag b ≠ 46 ∨ j ≠ 11) → (tag b ≠ 46 ∨ j ≠ 12) → (tag b ≠ 46 ∨ j ≠ 13) → (tag b ≠ 46 ∨ j ≠ 14) → (tag b ≠ 46 ∨ j ≠ 15) → fld F b j = fld Fo b j) ∧ (∀ b j : Nat, elm F b j = elm Fo b j) := ⟨fun b j n46_8 n46_9 n46_10 n46_11 n46_12 n46_13 n46_14 n46_15 => (yz7456.1 b j n46_9 n46_13 n46_14).trans (hfr.1 b j n46_8 n46_9 n46_10 n46_11 n46_12 n46_13 n46_14 n46_15), fun b j  => (yz7456.2 b j ).trans (hfr.2 b j )⟩
    have hstk := STK.tr hstk stz7456
    have hspt := SPT.tr hspt ptz7456
    have usz7456 : x3.toInt = 5 → soz7456.toInt = 5 := stz7456
    refine lv_aload_n hx hb dX13_begins_10 rfl (lv_at hl 0 rfl) ?_
    refine t_get (C := RX13) (T := TX13) (N := 37) X hT m0 g0 rfl rfl 4 (by decide) qw_477 inlX13 rfl dX13_begins_11 (fun v7457 hv7457 ov7457 => ?_)
    obtain rfl : v7457 = .ref x0 := hv7457.symm.trans pf0
    refine t_getN (C := RX12) (T := TX12) (N := 31) X hT mx0 gx0 rfl rfl 0 (by decide) (List.mem_of_getElem? (i := 4) rfl) inlX12 rfl dX13_begins_14 (fun v7458 hv7458 ov7458 => ?_)
    obtain rfl : v7458 = .int x6 := hv7458.symm.trans pf6
    refine lv_if_ne (tgt := 26) hx hb dX13_begins_17 (by decide) (fun c7459 => ?_) (fun c7459 => ?_)
    · have w7460 := cv_ne (rfl : x6.toInt = x6.toInt) (by decide : (0 : Int32).toInt = 0) c7459
      refine lv_aload_n hx hb dX13_begins_26 rfl (lv_at hl 0 rfl) ?_
      refine t_cVv (n := 0) (C := RX13) (T := TX13) (N := 37) (As := []) (rest := []) X hT (km14_X13_goesOn l G tag L F hT.2.2.2 p0 x0 x1 x2 soz7456 spz7456 faz7456 m0 g0 mx0 gx0 pf0 mx1 gx1 pf1 mx2 gx2 pf2 (by omega) qsoz7456 (by omega) qspz7456 (by omega) qfaz7456 hkf) m0 g0 rfl rfl qw_508 qw_509 qw_510 qw_5 qw_511 ⟨rfl, by decide +kernel, by decide +kernel, by decide +kernel⟩ ⟨Nat.le_of_ble_eq_true rfl, Nat.le_of_ble_eq_true rfl⟩ hl rfl rfl (Nat.le_of_ble_eq_true rfl) dX13_begins_27 ⟨Nat.le_of_ble_eq_true rfl, Nat.le_of_ble_eq_true rfl⟩ (fun F H locs hT hz7461 => ?_)
      obtain ⟨yz7461, ⟨soz7461, spz7461, faz7461, qsoz7461, qspz7461, qfaz7461, rsoz7461, rspz7461, rfaz7461, stz7461, ptz7461, hkf⟩⟩ := hz7461
      have pf0 := (yz7461.1 _ 4 (Or.inr (by decide)) (Or.inr (by decide)) (Or.inr (by decide)) (Or.inr (by decide)) (Or.inr (by decide)) (Or.inr (by decide))).trans pf0
      have pf1 := (yz7461.1 _ 28 (Or.inr (by decide)) (Or.inr (by decide)) (Or.inr (by decide)) (Or.inr (by decide)) (Or.inr (by decide)) (Or.inr (by decide))).trans pf1
      have pf2 := (yz7461.1 _ 29 (Or.inr (by decide)) (Or.inr (by decide)) (Or.inr (by decide)) (Or.inr (by decide)) (Or.inr (by decide)) (Or.inr (by decide))).trans pf2
      have pf6 := (yz7461.1 _ 0 (Or.inr (by decide)) (Or.inr (by decide)) (Or.inr (by decide)) (Or.inr (by decide)) (Or.inr (by decide)) (Or.inr (by decide))).trans pf6
      have qfaz7456 := (yz7461.1 _ 13 (Or.inr (by decide)) (Or.inr (by decide)) (Or.inr (by decide)) (Or.inr (by decide)) (Or.inr (by decide)) (Or.inr (by decide))).trans qfaz7456
      have hfr : (∀ b j : Nat, (tag b ≠ 46 ∨ j ≠ 8) → (tag b ≠ 46 ∨ j ≠ 9) → (tag b ≠ 46 ∨ j ≠ 10) → (tag b ≠ 46 ∨ j ≠ 11) → (tag b ≠ 46 ∨ j ≠ 12) → (tag b ≠ 46 ∨ j ≠ 13) → (tag b ≠ 46 ∨ j ≠ 14) → (tag b ≠ 46 ∨ j ≠ 15) → fld F b j = fld Fo b j) ∧ (∀ b j : Nat, elm F b j = elm Fo b j) := ⟨fun b j n46_8 n46_9 n46_10 n46_11 n46_12 n46_13 n46_14 n46_15 => (yz7461.1 b j n46_8 n46_9 n46_10 n46_11 n46_12 n46_15).trans (hfr.1 b j n46_8 n46_9 n46_10 n46_11 n46_12 n46_13 n46_14 n46_15), fun b j  => (yz7461.2 b j ).trans (hfr.2 b j )⟩
      have hstk := STK.tr hstk stz7461
      have hspt := SPT.tr hspt ptz7461
      have usz7461 : soz7456.toInt = 5 → soz7461.toInt = 5 := stz7461
      have k5z7461 : soz7461.toInt = 5 := stz7461 (by omega)
      exact t_vret hQ X hT ⟨hfr, ⟨soz7461, spz7461, faz7461, qsoz7461, qspz7461, qfaz7461, (by omega), (by omega), (by omega), hstk, hspt, hkf, (by omega)⟩⟩ (Nat.le_of_ble_eq_true rfl) (Nat.le_of_ble_eq_true rfl) dX13_begins_30
    · have w7462 := cv_eq (rfl : x6.toInt = x6.toInt) (by decide : (0 : Int32).toInt = 0) c7459
      refine lv_aload_n hx hb dX13_begins_20 rfl (lv_at hl 0 rfl) ?_
      refine lv_bipush (v := 6) hx hb dX13_begins_21 (by decide) ?_
      refine t_cVv (n := 1) (C := RX13) (T := TX13) (N := 37) (As := [.int 6]) (rest := []) X hT (km10_X13_flaw l G tag L F hT.2.2.2 p0 6 x0 x1 x2 soz7456 spz7456 faz7456 m0 g0 (by decide) mx0 gx0 pf0 mx1 gx1 pf1 mx2 gx2 pf2 (by omega) qsoz7456 (by omega) qspz7456 (by omega) qfaz7456 hkf) m0 g0 rfl rfl qw_548 qw_549 qw_550 qw_5 qw_551 ⟨rfl, by decide +kernel, by decide +kernel, by decide +kernel⟩ ⟨Nat.le_of_ble_eq_true rfl, Nat.le_of_ble_eq_true rfl⟩ hl rfl rfl (Nat.le_of_ble_eq_true rfl) dX13_begins_23 ⟨Nat.le_of_ble_eq_true rfl, Nat.le_of_ble_eq_true rfl⟩ (fun F H locs hT hz7463 => ?_)
      obtain ⟨yz7463, ⟨soz7463, spz7463, faz7463, qsoz7463, qspz7463, qfaz7463, rsoz7463, rspz7463, rfaz7463, stz7463, ptz7463, hkf, pxz7463_0⟩⟩ := hz7463
      have pf0 := (yz7463.1 _ 4 (Or.inr (by decide)) (Or.inr (by decide)) (Or.inr (by decide))).trans pf0
      have pf1 := (yz7463.1 _ 28 (Or.inr (by decide)) (Or.inr (by decide)) (Or.inr (by decide))).trans pf1
      have pf2 := (yz7463.1 _ 29 (Or.inr (by decide)) (Or.inr (by decide)) (Or.inr (by decide))).trans pf2
      have qspz7456 := (yz7463.1 _ 8 (Or.inr (by decide)) (Or.inr (by decide)) (Or.inr (by decide))).trans qspz7456
      have pf6 := (yz7463.1 _ 0 (Or.inr (by decide)) (Or.inr (by decide)) (Or.inr (by decide))).trans pf6
      have hfr : (∀ b j : Nat, (tag b ≠ 46 ∨ j ≠ 8) → (tag b ≠ 46 ∨ j ≠ 9) → (tag b ≠ 46 ∨ j ≠ 10) → (tag b ≠ 46 ∨ j ≠ 11) → (tag b ≠ 46 ∨ j ≠ 12) → (tag b ≠ 46 ∨ j ≠ 13) → (tag b ≠ 46 ∨ j ≠ 14) → (tag b ≠ 46 ∨ j ≠ 15) → fld F b j = fld Fo b j) ∧ (∀ b j : Nat, elm F b j = elm Fo b j) := ⟨fun b j n46_8 n46_9 n46_10 n46_11 n46_12 n46_13 n46_14 n46_15 => (yz7463.1 b j n46_9 n46_13 n46_14).trans (hfr.1 b j n46_8 n46_9 n46_10 n46_11 n46_12 n46_13 n46_14 n46_15), fun b j  => (yz7463.2 b j ).trans (hfr.2 b j )⟩
      have hstk := STK.tr hstk stz7463
      have hspt := SPT.tr hspt ptz7463
      have usz7463 : soz7456.toInt = 5 → soz7463.toInt = 5 := stz7463
      have k5z7463 : soz7463.toInt = 5 := stz7463 (by omega)
      refine lv_aload_n hx hb dX13_begins_26 rfl (lv_at hl 0 rfl) ?_
      refine t_cVv (n := 0) (C := RX13) (T := TX13) (N := 37) (As := []) (rest := []) X hT (km14_X13_goesOn l G tag L F hT.2.2.2 p0 x0 x1 x2 soz7463 spz7463 faz7463 m0 g0 mx0 gx0 pf0 mx1 gx1 pf1 mx2 gx2 pf2 (by omega) qsoz7463 (by omega) qspz7463 (by omega) qfaz7463 hkf) m0 g0 rfl rfl qw_508 qw_509 qw_510 qw_5 qw_511 ⟨rfl, by decide +kernel, by decide +kernel, by decide +kernel⟩ ⟨Nat.le_of_ble_eq_true rfl, Nat.le_of_ble_eq_true rfl⟩ hl rfl rfl (Nat.le_of_ble_eq_true rfl) dX13_begins_27 ⟨Nat.le_of_ble_eq_true rfl, Nat.le_of_ble_eq_true rfl⟩ (fun F H locs hT hz7464 => ?_)
      obtain ⟨yz7464, ⟨soz7464, spz7464, faz7464, qsoz7464, qspz7464, qfaz7464, rsoz7464, rspz7464, rfaz7464, stz7464, ptz7464, hkf⟩⟩ := hz7464
      have pf0 := (yz7464.1 _ 4 (Or.inr (by decide)) (Or.inr (by decide)) (Or.inr (by decide)) (Or.inr (by decide)) (Or.inr (by decide)) (Or.inr (by decide))).trans pf0
      have pf1 := (yz7464.1 _ 28 (Or.inr (by decide)) (Or.inr (by decide)) (Or.inr (by decide)) (Or.inr (by decide)) (Or.inr (by decide)) (Or.inr (by decide))).trans pf1
      have pf2 := (yz7464.1 _ 29 (Or.inr (by decide)) (Or.inr (by decide)) (Or.inr (by decide)) (Or.inr (by decide)) (Or.inr (by decide)) (Or.inr (by decide))).trans pf2
      have pf6 := (yz7464.1 _ 0 (Or.inr (by decide)) (Or.inr (by decide)) (Or.inr (by decide)) (Or.inr (by decide)) (Or.inr (by decide)) (Or.inr (by decide))).trans pf6
      have qfaz7463 := (yz7464.1 _ 13 (Or.inr (by decide)) (Or.inr (by decide)) (Or.inr (by decide)) (Or.inr (by decide)) (Or.inr (by decide)) (Or.inr (by decide))).trans qfaz7463
      have hfr : (∀ b j : Nat, (tag b ≠ 46 ∨ j ≠ 8) → (tag b ≠ 46 ∨ j ≠ 9) → (tag b ≠ 46 ∨ j ≠ 10) → (tag b ≠ 46 ∨ j ≠ 11) → (tag b ≠ 46 ∨ j ≠ 12) → (tag b ≠ 46 ∨ j ≠ 13) → (tag b ≠ 46 ∨ j ≠ 14) → (tag b ≠ 46 ∨ j ≠ 15) → fld F b j = fld Fo b j) ∧ (∀ b j : Nat, elm F b j = elm Fo b j) := ⟨fun b j n46_8 n46_9 n46_10 n46_11 n46_12 n46_13 n46_14 n46_15 => (yz7464.1 b j n46_8 n46_9 n46_10 n46_11 n46_12 n46_15).trans (hfr.1 b j n46_8 n46_9 n46_10 n46_11 n46_12 n46_13 n46_14 n46_15), fun b j  => (yz7464.2 b j ).trans (hfr.2 b j )⟩
      have hstk := STK.tr hstk stz7464
      have hspt := SPT.tr hspt ptz7464
      have usz7464 : soz7463.toInt = 5 → soz7464.toInt = 5 := stz7464
      have k5z7464 : soz7464.toInt = 5 := stz7464 (by omega)
      exact t_vret hQ X hT ⟨hfr, ⟨soz7464, spz7464, faz7464, qsoz7464, qspz7464, qfaz7464, (by omega), (by omega), (by omega), hstk, hspt, hkf, (by omega)⟩⟩ (Nat.le_of_ble_eq_true rfl) (Nat.le_of_ble_eq_true rfl) dX13_begins_30
set_option maxHeartbeats 4000000 in
set_option maxRecDepth 100000 in
theorem km16_X13_isName (l : Launch) (G : KG) (tag : Nat → Nat) (L : List Nat) (F : Nat → va_E) (ho : okT G ttC tag L F) (p0 : Nat) (x0 : Int32) (m0 : p0 ∈ L) (g0 : tag p0 = 46) (hx0 : 0 ≤ x0.toInt ∧ x0.toInt ≤ 5) (pf0 : fld F p0 9 = .int x0) : TMi l yX13_isName cX13_isName 1 (some .boolean) { frames := 6, cells := 0, slots := 0, locals := 129 } G ttC tag L F [.ref p0] (fun r F1 => F1 = F ∧ (0 ≤ r.toInt ∧ r.toInt ≤ 1)) := by
  refine t_bodyi (y := yX13_isName) (cd := cX13_isName) (mL := 1) (rt := (some .boolean)) (rm := { frames := 6, cells := 0, slots := 0, locals := 129 }) (av := [.ref p0]) (by decide) (Nat.le_of_ble_eq_true rfl) ho ?_
  intro p e s m args below meth c ls A Q hQ X hT hl
  have hx := X.1.1
  have hb := X.1.2.1
  have hl : lv_has ls 1 [(0, .ref p0)] := hl
  refine lv_aload_n hx hb dX13_isName_0 rfl (lv_at hl 0 rfl) ?_
  refine t_get (C := RX13) (T := TX13) (N := 37) X hT m0 g0 rfl rfl 9 (by decide) qw_478 inlX13 rfl dX13_isName_1 (fun v7997 hv7997 ov7997 => ?_)
  obtain rfl : v7997 = .int x0 := hv7997.symm.trans pf0
  refine lv_iconst (v := 2) hx hb dX13_isName_4 (by decide) ?_
  refine lv_icmp_ne (tgt := 62) hx hb dX13_isName_5 (by decide) (fun c7998 => ?_) (fun c7998 => ?_)
  · have w7999 := cv_ne (rfl : x0.toInt = x0.toInt) (by decide : (2 : Int32).toInt = 2) c7998
    refine lv_iconst (v := 0) hx hb dX13_isName_62 (by decide) ?_
    have k8000 : (0 : Int32).toInt = 0 := by decide
    exact t_zret hQ X hT (by decide) (⟨rfl, (by decide)⟩) (Nat.le_of_ble_eq_true rfl) (Nat.le_of_ble_eq_true rfl) dX13_isName_63
  · have w8001 := cv_eq (rfl : x0.toInt = x0.toInt) (by decide : (2 : Int32).toInt = 2) c7998
    refine lv_aload_n hx hb dX13_isName_8 rfl (lv_at hl 0 rfl) ?_
    refine m_ldcK X 39 rfl dX13_isName_9 ?_
    refine t_cVi (n := 1) (C := RX13) (T := TX13) (N := 37) (As := [.ref (G.2 (100 + 39))]) (rest := []) X hT (km9_X13_isWord l G tag L F hT.2.2.2 p0 39 x0 m0 g0 (by decide) (by omega) pf0) m0 g0 rfl rfl qw_535 qw_536 qw_537 qw_5 qw_538 ⟨rfl, by decide +kernel, by decide +kernel, by decide +kernel⟩ ⟨Nat.le_of_ble_eq_true rfl, Nat.le_of_ble_eq_true rfl⟩ hl rfl rfl (Nat.le_of_ble_eq_true rfl) dX13_isName_11 ⟨Nat.le_of_ble_eq_true rfl, Nat.le_of_ble_eq_true rfl⟩ (fun z8002 F9 H locs hT hz8002 => ?_)
    obtain ⟨fz8002, hz8002, xz8002_0⟩ := hz8002
    rw [fz8002] at hT
    refine lv_if_ne (tgt := 62) hx hb dX13_isName_14 (by decide) (fun c8003 => ?_) (fun c8003 => ?_)
    · have w8004 := cv_ne (rfl : z8002.toInt = z8002.toInt) (by decide : (0 : Int32).toInt = 0) c8003
      refine lv_iconst (v := 0) hx hb dX13_isName_62 (by decide) ?_
      have k8005 : (0 : Int32).toInt = 0 := by decide
      exact t_zret hQ X hT (by decide) (⟨rfl, (by decide)⟩) (Nat.le_of_ble_eq_true rfl) (Nat.le_of_ble_eq_true rfl) dX13_isName_63
    · have w8006 := cv_eq (rfl : z8002.toInt = z8002.toInt) (by decide : (0 : Int32).toInt = 0) c8003
      refine lv_aload_n hx hb dX13_isName_17 rfl (lv_at hl 0 rfl) ?_
      refine m_ldcK X 48 rfl dX13_isName_18 ?_
      refine t_cVi (n := 1) (C := RX13) (T := TX13) (N := 37) (As := [.ref (G.2 (100 + 48))]) (rest := []) X hT (km9_X13_isWord l G tag L F hT.2.2.2 p0 48 x0 m0 g0 (by decide) (by omega) pf0) m0 g0 rfl rfl qw_535 qw_536 qw_537 qw_5 qw_538 ⟨rfl, by decide +kernel, by decide +kernel, by decide +kernel⟩ ⟨Nat.le_of_ble_eq_true rfl, Nat.le_of_ble_eq_true rfl⟩ hl rfl rfl (Nat.le_of_ble_eq_true rfl) dX13_isName_20 ⟨Nat.le_of_ble_eq_true rfl, Nat.le_of_ble_eq_true rfl⟩ (fun z8007 F9 H locs hT hz8007 => ?_)
      obtain ⟨fz8007, hz8007, xz8007_0⟩ := hz8007
      rw [fz8007] at hT
      refine lv_if_ne (tgt := 62) hx hb dX13_isName_23 (by decide) (fun c8008 => ?_) (fun c8008 => ?_)
      · have w8009 := cv_ne (rfl : z8007.toInt = z8007.toInt) (by decide : (0 : Int32).toInt = 0) c8008
        refine lv_iconst (v := 0) hx hb dX13_isName_62 (by decide) ?_
        have k8010 : (0 : Int32).toInt = 0 := by decide
        exact t_zret hQ X hT (by decide) (⟨rfl, (by decide)⟩) (Nat.le_of_ble_eq_true rfl) (Nat.le_of_ble_eq_true rfl) dX13_isName_63
      · have w8011 := cv_eq (rfl : z8007.toInt = z8007.toInt) (by decide : (0 : Int32).toInt = 0) c8008
        refine lv_aload_n hx hb dX13_isName_26 rfl (lv_at hl 0 rfl) ?_
        refine m_ldcK X 52 rfl dX13_isName_27 ?_
        refine t_cVi (n := 1) (C := RX13) (T := TX13) (N := 37) (As := [.ref (G.2 (100 + 52))]) (rest := []) X hT (km9_X13_isWord l G tag L F hT.2.2.2 p0 52 x0 m0 g0 (by decide) (by omega) pf0) m0 g0 rfl rfl qw_535 qw_536 qw_537 qw_5 qw_538 ⟨rfl, by decide +kernel, by decide +kernel, by decide +kernel⟩ ⟨Nat.le_of_ble_eq_true rfl, Nat.le_of_ble_eq_true rfl⟩ hl rfl rfl (Nat.le_of_ble_eq_true rfl) dX13_isName_29 ⟨Nat.le_of_ble_eq_true rfl, Nat.le_of_ble_eq_true rfl⟩ (fun z8012 F9 H locs hT hz8012 => ?_)
        obtain ⟨fz8012, hz8012, xz8012_0⟩ := hz8012
        rw [fz8012] at hT
        refine lv_if_ne (tgt := 62) hx hb dX13_isName_32 (by decide) (fun c8013 => ?_) (fun c8013 => ?_)
        · have w8014 := cv_ne (rfl : z8012.toInt = z8012.toInt) (by decide : (0 : Int32).toInt = 0) c8013
          refine lv_iconst (v := 0) hx hb dX13_isName_62 (by decide) ?_
          have k8015 : (0 : Int32).toInt = 0 := by decide
          exact t_zret hQ X hT (by decide) (⟨rfl, (by decide)⟩) (Nat.le_of_ble_eq_true rfl) (Nat.le_of_ble_eq_true rfl) dX13_isName_63
        · have w8016 := cv_eq (rfl : z8012.toInt = z8012.toInt) (by decide : (0 : Int32).toInt = 0) c8013
          refine lv_aload_n hx hb dX13_isName_35 rfl (lv_at hl 0 rfl) ?_
          refine m_ldcK X 53 rfl dX13_isName_36 ?_
          refine t_cVi (n := 1) (C := RX13) (T := TX13) (N := 37) (As := [.ref (G.2 (100 + 53))]) (rest := []) X hT (km9_X13_isWord l G tag L F hT.2.2.2 p0 53 x0 m0 g0 (by decide) (by omega) pf0) m0 g0 rfl rfl qw_535 qw_536 qw_537 qw_5 qw_538 ⟨rfl, by decide +kernel, by decide +kernel, by decide +kernel⟩ ⟨Nat.le_of_ble_eq_true rfl, Nat.le_of_ble_eq_true rfl⟩ hl rfl rfl (Nat.le_of_ble_eq_true rfl) dX13_isName_38 ⟨Nat.le_of_ble_eq_true rfl, Nat.le_of_ble_eq_true rfl⟩ (fun z8017 F9 H locs hT hz8017 => ?_)
          obtain ⟨fz8017, hz8017, xz8017_0⟩ := hz8017
          rw [fz8017] at hT
          refine lv_if_ne (tgt := 62) hx hb dX13_isName_41 (by decide) (fun c8018 => ?_) (fun c8018 => ?_)
          · have w8019 := cv_ne (rfl : z8017.toInt = z8017.toInt) (by decide : (0 : Int32).toInt = 0) c8018
            refine lv_iconst (v := 0) hx hb dX13_isName_62 (by decide) ?_
            have k8020 : (0 : Int32).toInt = 0 := by decide
            exact t_zret hQ X hT (by decide) (⟨rfl, (by decide)⟩) (Nat.le_of_ble_eq_true rfl) (Nat.le_of_ble_eq_true rfl) dX13_isName_63
          · have w8021 := cv_eq (rfl : z8017.toInt = z8017.toInt) (by decide : (0 : Int32).toInt = 0) c8018
            refine lv_aload_n hx hb dX13_isName_44 rfl (lv_at hl 0 rfl) ?_
            refine m_ldcK X 54 rfl dX13_isName_45 ?_
            refine t_cVi (n := 1) (C := RX13) (T := TX13) (N := 37) (As := [.ref (G.2 (100 + 54))]) (rest := []) X hT (km9_X13_isWord l G tag L F hT.2.2.2 p0 54 x0 m0 g0 (by decide) (by omega) pf0) m0 g0 rfl rfl qw_535 qw_536 qw_537 qw_5 qw_538 ⟨rfl, by decide +kernel, by decide +kernel, by decide +kernel⟩ ⟨Nat.le_of_ble_eq_true rfl, Nat.le_of_ble_eq_true rfl⟩ hl rfl rfl (Nat.le_of_ble_eq_true rfl) dX13_isName_47 ⟨Nat.le_of_ble_eq_true rfl, Nat.le_of_ble_eq_true rfl⟩ (fun z8022 F9 H locs hT hz8022 => ?_)
            obtain ⟨fz8022, hz8022, xz8022_0⟩ := hz8022
            rw [fz8022] at hT
            refine lv_if_ne (tgt := 62) hx hb dX13_isName_50 (by decide) (fun c8023 => ?_) (fun c8023 => ?_)
            · have w8024 := cv_ne (rfl : z8022.toInt = z8022.toInt) (by decide : (0 : Int32).toInt = 0) c8023
              refine lv_iconst (v := 0) hx hb dX13_isName_62 (by decide) ?_
              have k8025 : (0 : Int32).toInt = 0 := by decide
              exact t_zret hQ X hT (by decide) (⟨rfl, (by decide)⟩) (Nat.le_of_ble_eq_true rfl) (Nat.le_of_ble_eq_true rfl) dX13_isName_63
            · have w8026 := cv_eq (rfl : z8022.toInt = z8022.toInt) (by decide : (0 : Int32).toInt = 0) c8023
              refine lv_aload_n hx hb dX13_isName_53 rfl (lv_at hl 0 rfl) ?_
              refine m_ldcK X 55 rfl dX13_isName_54 ?_
              refine t_cVi (n := 1) (C := RX13) (T := TX13) (N := 37) (As := [.ref (G.2 (100 + 55))]) (rest := []) X hT (km9_X13_isWord l G tag L F hT.2.2.2 p0 55 x0 m0 g0 (by decide) (by omega) pf0) m0 g0 rfl rfl qw_535 qw_536 qw_537 qw_5 qw_538 ⟨rfl, by decide +kernel, by decide +kernel, by decide +kernel⟩ ⟨Nat.le_of_ble_eq_true rfl, Nat.le_of_ble_eq_true rfl⟩ hl rfl rfl (Nat.le_of_ble_eq_true rfl) dX13_isName_56 ⟨Nat.le_of_ble_eq_true rfl, Nat.le_of_ble_eq_true rfl⟩ (fun z8027 F9 H locs hT hz8027 => ?_)
              obtain ⟨fz8027, hz8027, xz8027_0⟩ := hz8027
              rw [fz8027] at hT
              refine lv_if_eq (tgt := 64) hx hb dX13_isName_59 (by decide) (fun c8028 => ?_) (fun c8028 => ?_)
              · have w8029 := cv_eq (rfl : z8027.toInt = z8027.toInt) (by decide : (0 : Int32).toInt = 0) c8028
                refine lv_aload_n hx hb dX13_isName_64 rfl (lv_at hl 0 rfl) ?_
                refine m_ldcK X 56 rfl dX13_isName_65 ?_
                refine t_cVi (n := 1) (C := RX13) (T := TX13) (N := 37) (As := [.ref (G.2 (100 + 56))]) (rest := []) X hT (km9_X13_isWord l G tag L F hT.2.2.2 p0 56 x0 m0 g0 (by decide) (by omega) pf0) m0 g0 rfl rfl qw_535 qw_536 qw_537 qw_5 qw_538 ⟨rfl, by decide +kernel, by decide +kernel, by decide +kernel⟩ ⟨Nat.le_of_ble_eq_true rfl, Nat.le_of_ble_eq_true rfl⟩ hl rfl rfl (Nat.le_of_ble_eq_true rfl) dX13_isName_67 ⟨Nat.le_of_ble_eq_true rfl, Nat.le_of_ble_eq_true rfl⟩ (fun z8030 F9 H locs hT hz8030 => ?_)
                obtain ⟨fz8030, hz8030, xz8030_0⟩ := hz8030
                rw [fz8030] at hT
                refine lv_if_ne (tgt := 113) hx hb dX13_isName_70 (by decide) (fun c8031 => ?_) (fun c8031 => ?_)
                · have w8032 := cv_ne (rfl : z8030.toInt = z8030.toInt) (by decide : (0 : Int32).toInt = 0) c8031
                  refine lv_iconst (v := 0) hx hb dX13_isName_113 (by decide) ?_
                  have k8033 : (0 : Int32).toInt = 0 := by decide
                  exact t_zret hQ X hT (by decide) (⟨rfl, (by decide)⟩) (Nat.le_of_ble_eq_true rfl) (Nat.le_of_ble_eq_true rfl) dX13_isName_114
                · have w8034 := cv_eq (rfl : z8030.toInt = z8030.toInt) (by decide : (0 : Int32).toInt = 0) c8031
                  refine lv_aload_n hx hb dX13_isName_73 rfl (lv_at hl 0 rfl) ?_
                  refine m_ldcK X 57 rfl dX13_isName_74 ?_
                  refine t_cVi (n := 1) (C := RX13) (T := TX13) (N := 37) (As := [.ref (G.2 (100 + 57))]) (rest := []) X hT (km9_X13_isWord l G tag L F hT.2.2.2 p0 57 x0 m0 g0 (by decide) (by omega) pf0) m0 g0 rfl rfl qw_535 qw_536 qw_537 qw_5 qw_538 ⟨rfl, by decide +kernel, by decide +kernel, by decide +kernel⟩ ⟨Nat.le_of_ble_eq_true rfl, Nat.le_of_ble_eq_true rfl⟩ hl rfl rfl (Nat.le_of_ble_eq_true rfl) dX13_isName_76 ⟨Nat.le_of_ble_eq_true rfl, Nat.le_of_ble_eq_true rfl⟩ (fun z8035 F9 H locs hT hz8035 => ?_)
                  obtain ⟨fz8035, hz8035, xz8035_0⟩ := hz8035
                  rw [fz8035] at hT
                  refine lv_if_ne (tgt := 113) hx hb dX13_isName_79 (by decide) (fun c8036 => ?_) (fun c8036 => ?_)
                  · have w8037 := cv_ne (rfl : z8035.toInt = z8035.toInt) (by decide : (0 : Int32).toInt = 0) c8036
                    refine lv_iconst (v := 0) hx hb dX13_isName_113 (by decide) ?_
                    have k8038 : (0 : Int32).toInt = 0 := by decide
                    exact t_zret hQ X hT (by decide) (⟨rfl, (by decide)⟩) (Nat.le_of_ble_eq_true rfl) (Nat.le_of_ble_eq_true rfl) dX13_isName_114
                  · have w8039 := cv_eq (rfl : z8035.toInt = z8035.toInt) (by decide : (0 : Int32).toInt = 0) c8036
                    refine lv_aload_n hx hb dX13_isName_82 rfl (lv_at hl 0 rfl) ?_
                    refine m_ldcK X 58 rfl dX13_isName_83 ?_
                    refine t_cVi (n := 1) (C := RX13) (T := TX13) (N := 37) (As := [.ref (G.2 (100 + 58))]) (rest := []) X hT (km9_X13_isWord l G tag L F hT.2.2.2 p0 58 x0 m0 g0 (by decide) (by omega) pf0) m0 g0 rfl rfl qw_535 qw_536 qw_537 qw_5 qw_538 ⟨rfl, by decide +kernel, by decide +kernel, by decide +kernel⟩ ⟨Nat.le_of_ble_eq_true rfl, Nat.le_of_ble_eq_true rfl⟩ hl rfl rfl (Nat.le_of_ble_eq_true rfl) dX13_isName_85 ⟨Nat.le_of_ble_eq_true rfl, Nat.le_of_ble_eq_true rfl⟩ (fun z8040 F9 H locs hT hz8040 => ?_)
                    obtain ⟨fz8040, hz8040, xz8040_0⟩ := hz8040
                    rw [fz8040] at hT
                    refine lv_if_ne (tgt := 113) hx hb dX13_isName_88 (by decide) (fun c8041 => ?_) (fun c8041 => ?_)
                    · have w8042 := cv_ne (rfl : z8040.toInt = z8040.toInt) (by decide : (0 : Int32).toInt = 0) c8041
                      refine lv_iconst (v := 0) hx hb dX13_isName_113 (by decide) ?_
                      have k8043 : (0 : Int32).toInt = 0 := by decide
                      exact t_zret hQ X hT (by decide) (⟨rfl, (by decide)⟩) (Nat.le_of_ble_eq_true rfl) (Nat.le_of_ble_eq_true rfl) dX13_isName_114
                    · have w8044 := cv_eq (rfl : z8040.toInt = z8040.toInt) (by decide : (0 : Int32).toInt = 0) c8041
                      refine lv_aload_n hx hb dX13_isName_91 rfl (lv_at hl 0 rfl) ?_
                      refine m_ldcK X 59 rfl dX13_isName_92 ?_
                      refine t_cVi (n := 1) (C := RX13) (T := TX13) (N := 37) (As := [.ref (G.2 (100 + 59))]) (rest := []) X hT (km9_X13_isWord l G tag L F hT.2.2.2 p0 59 x0 m0 g0 (by decide) (by omega) pf0) m0 g0 rfl rfl qw_535 qw_536 qw_537 qw_5 qw_538 ⟨rfl, by decide +kernel, by decide +kernel, by decide +kernel⟩ ⟨Nat.le_of_ble_eq_true rfl, Nat.le_of_ble_eq_true rfl⟩ hl rfl rfl (Nat.le_of_ble_eq_true rfl) dX13_isName_94 ⟨Nat.le_of_ble_eq_true rfl, Nat.le_of_ble_eq_true rfl⟩ (fun z8045 F9 H locs hT hz8045 => ?_)
                      obtain ⟨fz8045, hz8045, xz8045_0⟩ := hz8045
                      rw [fz8045] at hT
                      refine lv_if_ne (tgt := 113) hx hb dX13_isName_97 (by decide) (fun c8046 => ?_) (fun c8046 => ?_)
                      · have w8047 := cv_ne (rfl : z8045.toInt = z8045.toInt) (by decide : (0 : Int32).toInt = 0) c8046
                        refine lv_iconst (v := 0) hx hb dX13_isName_113 (by decide) ?_
                        have k8048 : (0 : Int32).toInt = 0 := by decide
                        exact t_zret hQ X hT (by decide) (⟨rfl, (by decide)⟩) (Nat.le_of_ble_eq_true rfl) (Nat.le_of_ble_eq_true rfl) dX13_isName_114
                      · have w8049 := cv_eq (rfl : z8045.toInt = z8045.toInt) (by decide : (0 : Int32).toInt = 0) c8046
                        refine lv_aload_n hx hb dX13_isName_100 rfl (lv_at hl 0 rfl) ?_
                        refine m_ldcK X 60 rfl dX13_isName_101 ?_
                        refine t_cVi (n := 1) (C := RX13) (T := TX13) (N := 37) (As := [.ref (G.2 (100 + 60))]) (rest := []) X hT (km9_X13_isWord l G tag L F hT.2.2.2 p0 60 x0 m0 g0 (by decide) (by omega) pf0) m0 g0 rfl rfl qw_535 qw_536 qw_537 qw_5 qw_538 ⟨rfl, by decide +kernel, by decide +kernel, by decide +kernel⟩ ⟨Nat.le_of_ble_eq_true rfl, Nat.le_of_ble_eq_true rfl⟩ hl rfl rfl (Nat.le_of_ble_eq_true rfl) dX13_isName_103 ⟨Nat.le_of_ble_eq_true rfl, Nat.le_of_ble_eq_true rfl⟩ (fun z8050 F9 H locs hT hz8050 => ?_)
                        obtain ⟨fz8050, hz8050, xz8050_0⟩ := hz8050
                        rw [fz8050] at hT
                        refine lv_if_ne (tgt := 113) hx hb dX13_isName_106 (by decide) (fun c8051 => ?_) (fun c8051 => ?_)
                        · have w8052 := cv_ne (rfl : z8050.toInt = z8050.toInt) (by decide : (0 : Int32).toInt = 0) c8051
                          refine lv_iconst (v := 0) hx hb dX13_isName_113 (by decide) ?_
                          have k8053 : (0 : Int32).toInt = 0 := by decide
                          exact t_zret hQ X hT (by decide) (⟨rfl, (by decide)⟩) (Nat.le_of_ble_eq_true rfl) (Nat.le_of_ble_eq_true rfl) dX13_isName_114
                        · have w8054 := cv_eq (rfl : z8050.toInt = z8050.toInt) (by decide : (0 : Int32).toInt = 0) c8051
                          refine lv_iconst (v := 1) hx hb dX13_isName_109 (by decide) ?_
                          refine lv_goto (tgt := 114) hx hb dX13_isName_110 (by decide) ?_
                          have k8055 : (1 : Int32).toInt = 1 := by decide
                          exact t_zret hQ X hT (by decide) (⟨rfl, (by decide)⟩) (Nat.le_of_ble_eq_true rfl) (Nat.le_of_ble_eq_true rfl) dX13_isName_114
              · have w8056 := cv_ne (rfl : z8027.toInt = z8027.toInt) (by decide : (0 : Int32).toInt = 0) c8028
                refine lv_iconst (v := 0) hx hb dX13_isName_62 (by decide) ?_
                have k8057 : (0 : Int32).toInt = 0 := by decide
                exact t_zret hQ X hT (by decide) (⟨rfl, (by decide)⟩) (Nat.le_of_ble_eq_true rfl) (Nat.le_of_ble_eq_true rfl) dX13_isName_63
set_option maxHeartbeats 4000000 in
set_option maxRecDepth 100000 in
theorem km17_X12_find (l : Launch) (G : KG) (tag : Nat → Nat) (L : List Nat) (F : Nat → va_E) (ho : okT G ttC tag L F) (p0 : Nat) (p1 : Int64) (m0 : p0 ∈ L) (g0 : tag p0 = 44) : TMi l yX12_find cX12_find 4 (some .int) { frames := 0, cells := 0, slots := 0, locals := 0 } G ttC tag L F [.ref p0, .long p1] (fun r F1 => F1 = F ∧ ((-1) ≤ r.toInt ∧ r.toInt ≤ 31)) := by
  refine t_bodyi (y := yX12_find) (cd := cX12_find) (mL := 4) (rt := (some .int)) (rm := { frames := 0, cells := 0, slots := 0, locals := 0 }) (av := [.ref p0, .long p1]) (by decide) (Nat.le_of_ble_eq_true rfl) ho ?_
  intro p e s m args below meth c ls A Q hQ X hT hl
  have hx := X.1.1
  have hb := X.1.2.1
  have hl : lv_has ls 4 [(0, .ref p0), (1, .long p1)] := hl
  have K2 : ∀ (n : Nat) (z8428 : Int32) (H : Heap) (locs : List Loc) (ls : Array Slot), (32 - z8428.toInt < (n : Int)) → (0 ≤ z8428.toInt ∧ z8428.toInt ≤ 32) → TH G ttC A s tag L F H locs → lv_has ls 4 [(0, .ref p0), (1, .long p1), (3, .int z8428)] → W p l e { frames := 0, cells := 0, slots := 0, locals := 0 } s m args below meth c H locs 0 0 Q (F0 m 2 ls []) := by
    intro n
    induction n with
    | zero =>
      intro z8428 H locs ls hn rz8428 hT hl
      exfalso
      omega
    | succ n ih2 =>
      intro z8428 H locs ls hn rz8428 hT hl
      refine lv_iload_n hx hb dX12_find_2 rfl (lv_at hl 2 rfl) ?_
      refine lv_aload_n hx hb dX12_find_3 rfl (lv_at hl 0 rfl) ?_
      refine t_get (C := RX12) (T := TX12) (N := 31) X hT m0 g0 rfl rfl 12 (by decide) qw_607 inlX12 rfl dX12_find_4 (fun v8429 hv8429 ov8429 => ?_)
      obtain ⟨z8430, rfl, rz8430⟩ := okV_i ov8429
      refine lv_icmp_ge (tgt := 29) hx hb dX12_find_7 (by decide) (fun c8431 => ?_) (fun c8431 => ?_)
      · have w8432 := cv_le (rfl : z8430.toInt = z8430.toInt) (rfl : z8428.toInt = z8428.toInt) c8431
        refine lv_iconst (v := (-1)) hx hb dX12_find_29 (by decide) ?_
        have k8433 : ((-1) : Int32).toInt = (-1) := by decide
        exact t_iret hQ X hT (⟨rfl, (by decide)⟩) (Nat.le_of_ble_eq_true rfl) (Nat.le_of_ble_eq_true rfl) dX12_find_30
      · have w8434 := cv_nle (rfl : z8430.toInt = z8430.toInt) (rfl : z8428.toInt = z8428.toInt) c8431
        refine lv_aload_n hx hb dX12_find_10 rfl (lv_at hl 0 rfl) ?_
        refine t_get (C := RX12) (T := TX12) (N := 31) X hT m0 g0 rfl rfl 27 (by decide) qw_504 inlX12 rfl dX12_find_11 (fun v8435 hv8435 ov8435 => ?_)
        obtain ⟨b8436, rfl, mb8436, gb8436⟩ := okV_r ov8435
        have gb8436 : tag b8436 = 34 := tg_of gb8436
        refine lv_iload_n hx hb dX12_find_14 rfl (lv_at hl 2 rfl) ?_
        refine t_lld X hT mb8436 gb8436 rfl (by omega) dX12_find_15 (fun z8437 => ?_)
        refine lv_lload_n hx hb dX12_find_16 rfl (lv_at hl 1 rfl) ?_
        refine m_lcmp X dX12_find_17 (fun z8438 rz8438 => ?_)
        refine lv_if_ne (tgt := 23) hx hb dX12_find_18 (by decide) (fun c8439 => ?_) (fun c8439 => ?_)
        · have w8440 := cv_ne (rfl : z8438.toInt = z8438.toInt) (by decide : (0 : Int32).toInt = 0) c8439
          obtain ⟨z8441, ez8441⟩ : ∃ y : Int32, y = z8428 + 1 := ⟨_, rfl⟩
          have hz8441 : z8441.toInt = z8428.toInt + 1 := ar_add ez8441 rfl (by decide : (1 : Int32).toInt = 1) (by omega) (by omega)
          refine lv_iinc (v := z8441) (lv' := [(3, .int z8441), (0, .ref p0), (1, .long p1)]) hx hb dX12_find_23 hl (k := 2) rfl (by rw [ez8441]; rfl) (by decide) rfl (fun ls hl => ?_)
          refine lv_goto (tgt := 2) hx hb dX12_find_26 (by decide) ?_
          exact ih2 z8441 _ _ _ (by omega) (by omega) hT  (lv_sub hl [1, 2, 0] rfl)
        · have w8442 := cv_eq (rfl : z8438.toInt = z8438.toInt) (by decide : (0 : Int32).toInt = 0) c8439
          refine lv_iload_n hx hb dX12_find_21 rfl (lv_at hl 2 rfl) ?_
          exact t_iret hQ X hT (⟨rfl, (by omega)⟩) (Nat.le_of_ble_eq_true rfl) (Nat.le_of_ble_eq_true rfl) dX12_find_22
  refine lv_iconst (v := 0) hx hb dX12_find_0 (by decide) ?_
  refine lv_istore_n (lv' := [(3, .int 0), (0, .ref p0), (1, .long p1)]) hx hb dX12_find_1 rfl hl (by decide) rfl (fun ls hl => ?_)
  have k8443 : (0 : Int32).toInt = 0 := by decide
  exact K2 33 0 _ _ _ (by omega) (by decide) hT  (lv_sub hl [1, 2, 0] rfl)
set_option maxHeartbeats 4000000 in
set_option maxRecDepth 100000 in
theorem km18_X13_known (l : Launch) (G : KG) (tag : Nat → Nat) (L : List Nat) (Fo : Nat → va_E) (ho : okT G ttC tag L Fo) (p0 : Nat) (p1 : Int32) (x0 : Nat) (x1 : Nat) (x2 : Nat) (x3 : Int32) (x4 : Int32) (x5 : Int32) (m0 : p0 ∈ L) (g0 : tag p0 = 46) (h1 : 3 ≤ p1.toInt ∧ p1.toInt ≤ 3) (mx0 : x0 ∈ L) (gx0 : tag x0 = 44) (pf0 : fld Fo p0 4 = .ref x0) (mx1 : x1 ∈ L) (gx1 : tag x1 = 35) (pf1 : fld Fo x0 28 = .ref x1) (mx2 : x2 ∈ L) (gx2 : tag x2 = 36) (pf2 : fld Fo x0 29 = .ref x2) (hx3 : 0 ≤ x3.toInt ∧ x3.toInt ≤ 5) (pf3 : fld Fo p0 9 = .int x3) (hx4 : 0 ≤ x4.toInt ∧ x4.toInt ≤ 1000) (pf4 : fld Fo p0 8 = .int x4) (hx5 : 0 ≤ x5.toInt ∧ x5.toInt ≤ 7) (pf5 : fld Fo p0 13 = .int x5) (hrel : MSR Fo x1 x2) (hkf : KF x3 x5) : TMi l yX13_known cX13_known 3 (some .int) { frames := 7, cells := 0, slots := 0, locals := 149 } G ttC tag L Fo [.ref p0, .int p1] (fun r F1 => (0 ≤ r.toInt ∧ r.toInt ≤ 5) ∧ ((∀ b j : Nat, (tag b ≠ 46 ∨ j ≠ 9) → (tag b ≠ 46 ∨ j ≠ 13) → (tag b ≠ 46 ∨ j ≠ 14) → fld F1 b j = fld Fo b j) ∧ (∀ b j : Nat, elm F1 b j = elm Fo b j)) ∧ (MSR F1 x1 x2) ∧ (∃ so sp fa : Int32, fld F1 p0 9 = .int so ∧ fld F1 p0 8 = .int sp ∧ fld F1 p0 13 = .int fa ∧ (0 ≤ so.toInt ∧ so.toInt ≤ 5) ∧ (0 ≤ sp.toInt ∧ sp.toInt ≤ 1000) ∧ (0 ≤ fa.toInt ∧ fa.toInt ≤ 7) ∧ STK x3 so ∧ SPT x3 x4 so sp ∧ KF so fa)) := by
  refine t_bodyi (y := yX13_known) (cd := cX13_known) (mL := 3) (rt := (some .int)) (rm := { frames := 7, cells := 0, slots := 0, locals := 149 }) (av := [.ref p0, .int p1]) (by decide) (Nat.le_of_ble_eq_true rfl) ho ?_
  intro p e s m args below meth c ls A Q hQ X hT hl
  have hx := X.1.1
  have hb := X.1.2.1
  have hl : lv_has ls 3 [(0, .ref p0), (1, .int p1)] := hl
  obtain ⟨F, hFo⟩ : ∃ F : Nat → va_E, F = Fo := ⟨_, rfl⟩
  rw [← hFo] at hT pf0 pf1 pf2 pf3 pf4 pf5 hrel
  have hfr : (∀ b j : Nat, (tag b ≠ 46 ∨ j ≠ 9) → (tag b ≠ 46 ∨ j ≠ 13) → (tag b ≠ 46 ∨ j ≠ 14) → fld F b j = fld Fo b j) ∧ (∀ b j : Nat, elm F b j = elm Fo b j) := by
    rw [hFo]
    exact ⟨by intros; rfl, by intros; rfl⟩
  have hstk : STK x3 x3 := STK.rf
  have hspt : SPT x3 x4 x3 x4 := SPT.rf
  refine lv_aload_n hx hb dX13_known_0 rfl (lv_at hl 0 rfl) ?_
  refine t_cVi (n := 0) (C := RX13) (T := TX13) (N := 37) (As := []) (rest := []) X hT (km16_X13_isName l G tag L F hT.2.2.2 p0 x3 m0 g0 (by omega) pf3) m0 g0 rfl rfl qw_599 qw_600 qw_601 qw_5 qw_602 ⟨rfl, by decide +kernel, by decide +kernel, by decide +kernel⟩ ⟨Nat.le_of_ble_eq_true rfl, Nat.le_of_ble_eq_true rfl⟩ hl rfl rfl (Nat.le_of_ble_eq_true rfl) dX13_known_1 ⟨Nat.le_of_ble_eq_true rfl, Nat.le_of_ble_eq_true rfl⟩ (fun z9120 F9 H locs hT hz9120 => ?_)
  obtain ⟨fz9120, hz9120⟩ := hz9120
  rw [fz9120] at hT
  refine lv_if_ne (tgt := 12) hx hb dX13_known_4 (by decide) (fun c9121 => ?_) (fun c9121 => ?_)
  · have w9122 := cv_ne (rfl : z9120.toInt = z9120.toInt) (by decide : (0 : Int32).toInt = 0) c9121
    refine lv_aload_n hx hb dX13_known_12 rfl (lv_at hl 0 rfl) ?_
    refine t_get (C := RX13) (T := TX13) (N := 37) X hT m0 g0 rfl rfl 4 (by decide) qw_477 inlX13 rfl dX13_known_13 (fun v9123 hv9123 ov9123 => ?_)
    obtain rfl : v9123 = .ref x0 := hv9123.symm.trans pf0
    refine lv_aload_n hx hb dX13_known_16 rfl (lv_at hl 0 rfl) ?_
    refine t_get (C := RX13) (T := TX13) (N := 37) X hT m0 g0 rfl rfl 15 (by decide) qw_514 inlX13 rfl dX13_known_17 (fun v9124 hv9124 ov9124 => ?_)
    obtain ⟨z9125, rfl⟩ := ov9124
    refine t_cVi (n := 1) (C := RX12) (T := TX12) (N := 31) (As := [.long z9125]) (rest := []) X hT (km17_X12_find l G tag L F hT.2.2.2 x0 z9125 mx0 gx0) mx0 gx0 rfl rfl qw_603 qw_604 qw_605 qw_476 qw_606 ⟨rfl, by decide +kernel, by decide +kernel, by decide +kernel⟩ ⟨Nat.le_of_ble_eq_true rfl, Nat.le_of_ble_eq_true rfl⟩ hl rfl rfl (Nat.le_of_ble_eq_true rfl) dX13_known_20 ⟨Nat.le_of_ble_eq_true rfl, Nat.le_of_ble_eq_true rfl⟩ (fun z9126 F9 H locs hT hz9126 => ?_)
    obtain ⟨fz9126, hz9126⟩ := hz9126
    rw [fz9126] at hT
    refine lv_istore_n (lv' := [(2, .int z9126), (0, .ref p0), (1, .int p1)]) hx hb dX13_known_23 rfl hl (by decide) rfl (fun ls hl => ?_)
    refine lv_iload_n hx hb dX13_known_24 rfl (lv_at hl 0 rfl) ?_
    refine lv_iconst (v := (-1)) hx hb dX13_known_25 (by decide) ?_
    refine lv_icmp_eq (tgt := 42) hx hb dX13_known_26 (by decide) (fun c9127 => ?_) (fun c9127 => ?_)
    · have w9128 := cv_eq (rfl : z9126.toInt = z9126.toInt) (by decide : ((-1) : Int32).toInt = (-1)) c9127
      refine lv_aload_n hx hb dX13_known_42 rfl (lv_at hl 1 rfl) ?_
      refine lv_iconst (v := 2) hx hb dX13_known_43 (by decide) ?_
      refine t_cVv (n := 1) (C := RX13) (T := TX13) (N := 37) (As := [.int 2]) (rest := []) X hT (km10_X13_flaw l G tag L F hT.2.2.2 p0 2 x0 x1 x2 x3 x4 x5 m0 g0 (by decide) mx0 gx0 pf0 mx1 gx1 pf1 mx2 gx2 pf2 (by omega) pf3 (by omega) pf4 (by omega) pf5 hkf) m0 g0 rfl rfl qw_548 qw_549 qw_550 qw_5 qw_551 ⟨rfl, by decide +kernel, by decide +kernel, by decide +kernel⟩ ⟨Nat.le_of_ble_eq_true rfl, Nat.le_of_ble_eq_true rfl⟩ hl rfl rfl (Nat.le_of_ble_eq_true rfl) dX13_known_44 ⟨Nat.le_of_ble_eq_true rfl, Nat.le_of_ble_eq_true rfl⟩ (fun F H locs hT hz9129 => ?_)
      obtain ⟨yz9129, ⟨soz9129, spz9129, faz9129, qsoz9129, qspz9129, qfaz9129, rsoz9129, rspz9129, rfaz9129, stz9129, ptz9129, hkf, pxz9129_0⟩⟩ := hz9129
      have pf0 := (yz9129.1 _ 4 (Or.inr (by decide)) (Or.inr (by decide)) (Or.inr (by decide))).trans pf0
      have pf1 := (yz9129.1 _ 28 (Or.inr (by decide)) (Or.inr (by decide)) (Or.inr (by decide))).trans pf1
      have pf2 := (yz9129.1 _ 29 (Or.inr (by decide)) (Or.inr (by decide)) (Or.inr (by decide))).trans pf2
      have pf4 := (yz9129.1 _ 8 (Or.inr (by decide)) (Or.inr (by decide)) (Or.inr (by decide))).trans pf4
      have hfr : (∀ b j : Nat, (tag b ≠ 46 ∨ j ≠ 9) → (tag b ≠ 46 ∨ j ≠ 13) → (tag b ≠ 46 ∨ j ≠ 14) → fld F b j = fld Fo b j) ∧ (∀ b j : Nat, elm F b j = elm Fo b j) := ⟨fun b j n46_9 n46_13 n46_14 => (yz9129.1 b j n46_9 n46_13 n46_14).trans (hfr.1 b j n46_9 n46_13 n46_14), fun b j  => (yz9129.2 b j ).trans (hfr.2 b j )⟩
      have hrel := msr_of (fun j => yz9129.2 _ j ) (fun j => yz9129.2 _ j ) hrel
      have hstk := STK.tr hstk stz9129
      have hspt := SPT.tr hspt ptz9129
      refine lv_aload_n hx hb dX13_known_47 rfl (lv_at hl 1 rfl) ?_
      refine t_get (C := RX13) (T := TX13) (N := 37) X hT m0 g0 rfl rfl 9 (by decide) qw_478 inlX13 rfl dX13_known_48 (fun v9130 hv9130 ov9130 => ?_)
      obtain rfl : v9130 = .int soz9129 := hv9130.symm.trans qsoz9129
      refine lv_iconst (v := 5) hx hb dX13_known_51 (by decide) ?_
      refine lv_icmp_ne (tgt := 59) hx hb dX13_known_52 (by decide) (fun c9131 => ?_) (fun c9131 => ?_)
      · have w9132 := cv_ne (rfl : soz9129.toInt = soz9129.toInt) (by decide : (5 : Int32).toInt = 5) c9131
        exfalso
        omega
      · have w9133 := cv_eq (rfl : soz9129.toInt = soz9129.toInt) (by decide : (5 : Int32).toInt = 5) c9131
        refine lv_iconst (v := 0) hx hb dX13_known_55 (by decide) ?_
        refine lv_goto (tgt := 68) hx hb dX13_known_56 (by decide) ?_
        have k9134 : (0 : Int32).toInt = 0 := by decide
        exact t_iret hQ X hT (⟨(by decide), hfr, hrel, ⟨soz9129, spz9129, faz9129, qsoz9129, qspz9129, qfaz9129, (by omega), (by omega), (by omega), hstk, hspt, hkf⟩⟩) (Nat.le_of_ble_eq_true rfl) (Nat.le_of_ble_eq_true rfl) dX13_known_68
    · have w9135 := cv_ne (rfl : z9126.toInt = z9126.toInt) (by decide : ((-1) : Int32).toInt = (-1)) c9127
      refine lv_aload_n hx hb dX13_known_29 rfl (lv_at hl 1 rfl) ?_
      refine t_get (C := RX13) (T := TX13) (N := 37) X hT m0 g0 rfl rfl 4 (by decide) qw_477 inlX13 rfl dX13_known_30 (fun v9136 hv9136 ov9136 => ?_)
      obtain rfl : v9136 = .ref x0 := hv9136.symm.trans pf0
      refine t_getN (C := RX12) (T := TX12) (N := 31) X hT mx0 gx0 rfl rfl 28 (by decide) (List.mem_of_getElem? (i := 32) rfl) inlX12 rfl dX13_known_33 (fun v9137 hv9137 ov9137 => ?_)
      obtain rfl : v9137 = .ref x1 := hv9137.symm.trans pf1
      refine lv_iload_n hx hb dX13_known_36 rfl (lv_at hl 0 rfl) ?_
      refine t_ild X hT mx1 gx1 rfl (by omega) dX13_known_37 (fun z9138 vz9138 rz9138 => ?_)
      have rz9138 : (-2147483648) ≤ z9138.toInt ∧ z9138.toInt ≤ 2147483647 := rz9138
      refine lv_iload_n hx hb dX13_known_38 rfl (lv_at hl 2 rfl) ?_
      refine lv_icmp_eq (tgt := 47) hx hb dX13_known_39 (by decide) (fun c9139 => ?_) (fun c9139 => ?_)
      · have w9140 := cv_eq (rfl : z9138.toInt = z9138.toInt) (rfl : p1.toInt = p1.toInt) c9139
        refine lv_aload_n hx hb dX13_known_47 rfl (lv_at hl 1 rfl) ?_
        refine t_get (C := RX13) (T := TX13) (N := 37) X hT m0 g0 rfl rfl 9 (by decide) qw_478 inlX13 rfl dX13_known_48 (fun v9141 hv9141 ov9141 => ?_)
        obtain rfl : v9141 = .int x3 := hv9141.symm.trans pf3
        refine lv_iconst (v := 5) hx hb dX13_known_51 (by decide) ?_
        refine lv_icmp_ne (tgt := 59) hx hb dX13_known_52 (by decide) (fun c9142 => ?_) (fun c9142 => ?_)
        · have w9143 := cv_ne (rfl : x3.toInt = x3.toInt) (by decide : (5 : Int32).toInt = 5) c9142
          refine lv_aload_n hx hb dX13_known_59 rfl (lv_at hl 1 rfl) ?_
          refine t_get (C := RX13) (T := TX13) (N := 37) X hT m0 g0 rfl rfl 4 (by decide) qw_477 inlX13 rfl dX13_known_60 (fun v9144 hv9144 ov9144 => ?_)
          obtain rfl : v9144 = .ref x0 := hv9144.symm.trans pf0
          refine t_getN (C := RX12) (T := TX12) (N := 31) X hT mx0 gx0 rfl rfl 29 (by decide) (List.mem_of_getElem? (i := 33) rfl) inlX12 rfl dX13_known_63 (fun v9145 hv9145 ov9145 => ?_)
          obtain rfl : v9145 = .ref x2 := hv9145.symm.trans pf2
          refine lv_iload_n hx hb dX13_known_66 rfl (lv_at hl 0 rfl) ?_
          refine t_ild X hT mx2 gx2 rfl (by omega) dX13_known_67 (fun z9146 vz9146 rz9146 => ?_)
          have rz9146 : (-2147483648) ≤ z9146.toInt ∧ z9146.toInt ≤ 2147483647 := rz9146
          have rz9146 := msr_3 hrel vz9138 vz9146 (by omega)
          exact t_iret hQ X hT (⟨(by omega), hfr, hrel, ⟨x3, x4, x5, pf3, pf4, pf5, (by omega), (by omega), (by omega), hstk, hspt, hkf⟩⟩) (Nat.le_of_ble_eq_true rfl) (Nat.le_of_ble_eq_true rfl) dX13_known_68
        · have w9147 := cv_eq (rfl : x3.toInt = x3.toInt) (by decide : (5 : Int32).toInt = 5) c9142
          refine lv_iconst (v := 0) hx hb dX13_known_55 (by decide) ?_
          refine lv_goto (tgt := 68) hx hb dX13_known_56 (by decide) ?_
          have k9148 : (0 : Int32).toInt = 0 := by decide
          exact t_iret hQ X hT (⟨(by decide), hfr, hrel, ⟨x3, x4, x5, pf3, pf4, pf5, (by omega), (by omega), (by omega), hstk, hspt, hkf⟩⟩) (Nat.le_of_ble_eq_true rfl) (Nat.le_of_ble_eq_true rfl) dX13_known_68
      · have w9149 := cv_ne (rfl : z9138.toInt = z9138.toInt) (rfl : p1.toInt = p1.toInt) c9139
        refine lv_aload_n hx hb dX13_known_42 rfl (lv_at hl 1 rfl) ?_
        refine lv_iconst (v := 2) hx hb dX13_known_43 (by decide) ?_
        refine t_cVv (n := 1) (C := RX13) (T := TX13) (N := 37) (As := [.int 2]) (rest := []) X hT (km10_X13_flaw l G tag L F hT.2.2.2 p0 2 x0 x1 x2 x3 x4 x5 m0 g0 (by decide) mx0 gx0 pf0 mx1 gx1 pf1 mx2 gx2 pf2 (by omega) pf3 (by omega) pf4 (by omega) pf5 hkf) m0 g0 rfl rfl qw_548 qw_549 qw_550 qw_5 qw_551 ⟨rfl, by decide +kernel, by decide +kernel, by decide +kernel⟩ ⟨Nat.le_of_ble_eq_true rfl, Nat.le_of_ble_eq_true rfl⟩ hl rfl rfl (Nat.le_of_ble_eq_true rfl) dX13_known_44 ⟨Nat.le_of_ble_eq_true rfl, Nat.le_of_ble_eq_true rfl⟩ (fun F H locs hT hz9150 => ?_)
        obtain ⟨yz9150, ⟨soz9150, spz9150, faz9150, qsoz9150, qspz9150, qfaz9150, rsoz9150, rspz9150, rfaz9150, stz9150, ptz9150, hkf, pxz9150_0⟩⟩ := hz9150
        have pf0 := (yz9150.1 _ 4 (Or.inr (by decide)) (Or.inr (by decide)) (Or.inr (by decide))).trans pf0
        have pf1 := (yz9150.1 _ 28 (Or.inr (by decide)) (Or.inr (by decide)) (Or.inr (by decide))).trans pf1
        have pf2 := (yz9150.1 _ 29 (Or.inr (by decide)) (Or.inr (by decide)) (Or.inr (by decide))).trans pf2
        have pf4 := (yz9150.1 _ 8 (Or.inr (by decide)) (Or.inr (by decide)) (Or.inr (by decide))).trans pf4
        have vz9138 := (yz9150.2 _ _ ).trans vz9138
        have hfr : (∀ b j : Nat, (tag b ≠ 46 ∨ j ≠ 9) → (tag b ≠ 46 ∨ j ≠ 13) → (tag b ≠ 46 ∨ j ≠ 14) → fld F b j = fld Fo b j) ∧ (∀ b j : Nat, elm F b j = elm Fo b j) := ⟨fun b j n46_9 n46_13 n46_14 => (yz9150.1 b j n46_9 n46_13 n46_14).trans (hfr.1 b j n46_9 n46_13 n46_14), fun b j  => (yz9150.2 b j ).trans (hfr.2 b j )⟩
        have hrel := msr_of (fun j => yz9150.2 _ j ) (fun j => yz9150.2 _ j ) hrel
        have hstk := STK.tr hstk stz9150
        have hspt := SPT.tr hspt ptz9150
        refine lv_aload_n hx hb dX13_known_47 rfl (lv_at hl 1 rfl) ?_
        refine t_get (C := RX13) (T := TX13) (N := 37) X hT m0 g0 rfl rfl 9 (by decide) qw_478 inlX13 rfl dX13_known_48 (fun v9151 hv9151 ov9151 => ?_)
        obtain rfl : v9151 = .int soz9150 := hv9151.symm.trans qsoz9150
        refine lv_iconst (v := 5) hx hb dX13_known_51 (by decide) ?_
        refine lv_icmp_ne (tgt := 59) hx hb dX13_known_52 (by decide) (fun c9152 => ?_) (fun c9152 => ?_)
        · have w9153 := cv_ne (rfl : soz9150.toInt = soz9150.toInt) (by decide : (5 : Int32).toInt = 5) c9152
          exfalso
          omega
        · have w9154 := cv_eq (rfl : soz9150.toInt = soz9150.toInt) (by decide : (5 : Int32).toInt = 5) c9152
          refine lv_iconst (v := 0) hx hb dX13_known_55 (by decide) ?_
          refine lv_goto (tgt := 68) hx hb dX13_known_56 (by decide) ?_
          have k9155 : (0 : Int32).toInt = 0 := by decide
          exact t_iret hQ X hT (⟨(by decide), hfr, hrel, ⟨soz9150, spz9150, faz9150, qsoz9150, qspz9150, qfaz9150, (by omega), (by omega), (by omega), hstk, hspt, hkf⟩⟩) (Nat.le_of_ble_eq_true rfl) (Nat.le_of_ble_eq_true rfl) dX13_known_68
  · have w9156 := cv_eq (rfl : z9120.toInt = z9120.toInt) (by decide : (0 : Int32).toInt = 0) c9121
    refine lv_aload_n hx hb dX13_known_7 rfl (lv_at hl 0 rfl) ?_
    refine lv_iconst (v := 1) hx hb dX13_known_8 (by decide) ?_
    refine t_cVv (n := 1) (C := RX13) (T := TX13) (N := 37) (As := [.int 1]) (rest := []) X hT (km10_X13_flaw l G tag L F hT.2.2.2 p0 1 x0 x1 x2 x3 x4 x5 m0 g0 (by decide) mx0 gx0 pf0 mx1 gx1 pf1 mx2 gx2 pf2 (by omega) pf3 (by omega) pf4 (by omega) pf5 hkf) m0 g0 rfl rfl qw_548 qw_549 qw_550 qw_5 qw_551 ⟨rfl, by decide +kernel, by decide +kernel, by decide +kernel⟩ ⟨Nat.le_of_ble_eq_true rfl, Nat.le_of_ble_eq_true rfl⟩ hl rfl rfl (Nat.le_of_ble_eq_true rfl) dX13_known_9 ⟨Nat.le_of_ble_eq_true rfl, Nat.le_of_ble_eq_true rfl⟩ (fun F H locs hT hz9157 => ?_)
    obtain ⟨yz9157, ⟨soz9157, spz9157, faz9157, qsoz9157, qspz9157, qfaz9157, rsoz9157, rspz9157, rfaz9157, stz9157, ptz9157, hkf, pxz9157_0⟩⟩ := hz9157
    have pf0 := (yz9157.1 _ 4 (Or.inr (by decide)) (Or.inr (by decide)) (Or.inr (by decide))).trans pf0
    have pf1 := (yz9157.1 _ 28 (Or.inr (by decide)) (Or.inr (by decide)) (Or.inr (by decide))).trans pf1
    have pf2 := (yz9157.1 _ 29 (Or.inr (by decide)) (Or.inr (by decide)) (Or.inr (by decide))).trans pf2
    have pf4 := (yz9157.1 _ 8 (Or.inr (by decide)) (Or.inr (by decide)) (Or.inr (by decide))).trans pf4
    have hfr : (∀ b j : Nat, (tag b ≠ 46 ∨ j ≠ 9) → (tag b ≠ 46 ∨ j ≠ 13) → (tag b ≠ 46 ∨ j ≠ 14) → fld F b j = fld Fo b j) ∧ (∀ b j : Nat, elm F b j = elm Fo b j) := ⟨fun b j n46_9 n46_13 n46_14 => (yz9157.1 b j n46_9 n46_13 n46_14).trans (hfr.1 b j n46_9 n46_13 n46_14), fun b j  => (yz9157.2 b j ).trans (hfr.2 b j )⟩
    have hrel := msr_of (fun j => yz9157.2 _ j ) (fun j => yz9157.2 _ j ) hrel
    have hstk := STK.tr hstk stz9157
    have hspt := SPT.tr hspt ptz9157
    refine lv_aload_n hx hb dX13_known_12 rfl (lv_at hl 0 rfl) ?_
    refine t_get (C := RX13) (T := TX13) (N := 37) X hT m0 g0 rfl rfl 4 (by decide) qw_477 inlX13 rfl dX13_known_13 (fun v9158 hv9158 ov9158 => ?_)
    obtain rfl : v9158 = .ref x0 := hv9158.symm.trans pf0
    refine lv_aload_n hx hb dX13_known_16 rfl (lv_at hl 0 rfl) ?_
    refine t_get (C := RX13) (T := TX13) (N := 37) X hT m0 g0 rfl rfl 15 (by decide) qw_514 inlX13 rfl dX13_known_17 (fun v9159 hv9159 ov9159 => ?_)
    obtain ⟨z9160, rfl⟩ := ov9159
    refine t_cVi (n := 1) (C := RX12) (T := TX12) (N := 31) (As := [.long z9160]) (rest := []) X hT (km17_X12_find l G tag L F hT.2.2.2 x0 z9160 mx0 gx0) mx0 gx0 rfl rfl qw_603 qw_604 qw_605 qw_476 qw_606 ⟨rfl, by decide +kernel, by decide +kernel, by decide +kernel⟩ ⟨Nat.le_of_ble_eq_true rfl, Nat.le_of_ble_eq_true rfl⟩ hl rfl rfl (Nat.le_of_ble_eq_true rfl) dX13_known_20 ⟨Nat.le_of_ble_eq_true rfl, Nat.le_of_ble_eq_true rfl⟩ (fun z9161 F9 H locs hT hz9161 => ?_)
    obtain ⟨fz9161, hz9161⟩ := hz9161
    rw [fz9161] at hT
    refine lv_istore_n (lv' := [(2, .int z9161), (0, .ref p0), (1, .int p1)]) hx hb dX13_known_23 rfl hl (by decide) rfl (fun ls hl => ?_)
    refine lv_iload_n hx hb dX13_known_24 rfl (lv_at hl 0 rfl) ?_
    refine lv_iconst (v := (-1)) hx hb dX13_known_25 (by decide) ?_
    refine lv_icmp_eq (tgt := 42) hx hb dX13_known_26 (by decide) (fun c9162 => ?_) (fun c9162 => ?_)
    · have w9163 := cv_eq (rfl : z9161.toInt = z9161.toInt) (by decide : ((-1) : Int32).toInt = (-1)) c9162
      refine lv_aload_n hx hb dX13_known_42 rfl (lv_at hl 1 rfl) ?_
      refine lv_iconst (v := 2) hx hb dX13_known_43 (by decide) ?_
      refine t_cVv (n := 1) (C := RX13) (T := TX13) (N := 37) (As := [.int 2]) (rest := []) X hT (km10_X13_flaw l G tag L F hT.2.2.2 p0 2 x0 x1 x2 soz9157 spz9157 faz9157 m0 g0 (by decide) mx0 gx0 pf0 mx1 gx1 pf1 mx2 gx2 pf2 (by omega) qsoz9157 (by omega) qspz9157 (by omega) qfaz9157 hkf) m0 g0 rfl rfl qw_548 qw_549 qw_550 qw_5 qw_551 ⟨rfl, by decide +kernel, by decide +kernel, by decide +kernel⟩ ⟨Nat.le_of_ble_eq_true rfl, Nat.le_of_ble_eq_true rfl⟩ hl rfl rfl (Nat.le_of_ble_eq_true rfl) dX13_known_44 ⟨Nat.le_of_ble_eq_true rfl, Nat.le_of_ble_eq_true rfl⟩ (fun F H locs hT hz9164 => ?_)
      obtain ⟨yz9164, ⟨soz9164, spz9164, faz9164, qsoz9164, qspz9164, qfaz9164, rsoz9164, rspz9164, rfaz9164, stz9164, ptz9164, hkf, pxz9164_0⟩⟩ := hz9164
      have pf0 := (yz9164.1 _ 4 (Or.inr (by decide)) (Or.inr (by decide)) (Or.inr (by decide))).trans pf0
      have pf1 := (yz9164.1 _ 28 (Or.inr (by decide)) (Or.inr (by decide)) (Or.inr (by decide))).trans pf1
      have pf2 := (yz9164.1 _ 29 (Or.inr (by decide)) (Or.inr (by decide)) (Or.inr (by decide))).trans pf2
      have qspz9157 := (yz9164.1 _ 8 (Or.inr (by decide)) (Or.inr (by decide)) (Or.inr (by decide))).trans qspz9157
      have hfr : (∀ b j : Nat, (tag b ≠ 46 ∨ j ≠ 9) → (tag b ≠ 46 ∨ j ≠ 13) → (tag b ≠ 46 ∨ j ≠ 14) → fld F b j = fld Fo b j) ∧ (∀ b j : Nat, elm F b j = elm Fo b j) := ⟨fun b j n46_9 n46_13 n46_14 => (yz9164.1 b j n46_9 n46_13 n46_14).trans (hfr.1 b j n46_9 n46_13 n46_14), fun b j  => (yz9164.2 b j ).trans (hfr.2 b j )⟩
      have hrel := msr_of (fun j => yz9164.2 _ j ) (fun j => yz9164.2 _ j ) hrel
      have hstk := STK.tr hstk stz9164
      have hspt := SPT.tr hspt ptz9164
      have k5z9164 : soz9164.toInt = 5 := stz9164 (by omega)
      refine lv_aload_n hx hb dX13_known_47 rfl (lv_at hl 1 rfl) ?_
      refine t_get (C := RX13) (T := TX13) (N := 37) X hT m0 g0 rfl rfl 9 (by decide) qw_478 inlX13 rfl dX13_known_48 (fun v9165 hv9165 ov9165 => ?_)
      obtain rfl : v9165 = .int soz9164 := hv9165.symm.trans qsoz9164
      refine lv_iconst (v := 5) hx hb dX13_known_51 (by decide) ?_
      refine lv_icmp_ne (tgt := 59) hx hb dX13_known_52 (by decide) (fun c9166 => ?_) (fun c9166 => ?_)
      · have w9167 := cv_ne (rfl : soz9164.toInt = soz9164.toInt) (by decide : (5 : Int32).toInt = 5) c9166
        exfalso
        omega
      · have w9168 := cv_eq (rfl : soz9164.toInt = soz9164.toInt) (by decide : (5 : Int32).toInt = 5) c9166
        refine lv_iconst (v := 0) hx hb dX13_known_55 (by decide) ?_
        refine lv_goto (tgt := 68) hx hb dX13_known_56 (by decide) ?_
        have k9169 : (0 : Int32).toInt = 0 := by decide
        exact t_iret hQ X hT (⟨(by decide), hfr, hrel, ⟨soz9164, spz9164, faz9164, qsoz9164, qspz9164, qfaz9164, (by omega), (by omega), (by omega), hstk, hspt, hkf⟩⟩) (Nat.le_of_ble_eq_true rfl) (Nat.le_of_ble_eq_true rfl) dX13_known_68
    · have w9170 := cv_ne (rfl : z9161.toInt = z9161.toInt) (by decide : ((-1) : Int32).toInt = (-1)) c9162
      refine lv_aload_n hx hb dX13_known_29 rfl (lv_at hl 1 rfl) ?_
      refine t_get (C := RX13) (T := TX13) (N := 37) X hT m0 g0 rfl rfl 4 (by decide) qw_477 inlX13 rfl dX13_known_30 (fun v9171 hv9171 ov9171 => ?_)
      obtain rfl : v9171 = .ref x0 := hv9171.symm.trans pf0
      refine t_getN (C := RX12) (T := TX12) (N := 31) X hT mx0 gx0 rfl rfl 28 (by decide) (List.mem_of_getElem? (i := 32) rfl) inlX12 rfl dX13_known_33 (fun v9172 hv9172 ov9172 => ?_)
      obtain rfl : v9172 = .ref x1 := hv9172.symm.trans pf1
      refine lv_iload_n hx hb dX13_known_36 rfl (lv_at hl 0 rfl) ?_
      refine t_ild X hT mx1 gx1 rfl (by omega) dX13_known_37 (fun z9173 vz9173 rz9173 => ?_)
      have rz9173 : (-2147483648) ≤ z9173.toInt ∧ z9173.toInt ≤ 2147483647 := rz9173
      refine lv_iload_n hx hb dX13_known_38 rfl (lv_at hl 2 rfl) ?_
      refine lv_icmp_eq (tgt := 47) hx hb dX13_known_39 (by decide) (fun c9174 => ?_) (fun c9174 => ?_)
      · have w9175 := cv_eq (rfl : z9173.toInt = z9173.toInt) (rfl : p1.toInt = p1.toInt) c9174
        refine lv_aload_n hx hb dX13_known_47 rfl (lv_at hl 1 rfl) ?_
        refine t_get (C := RX13) (T := TX13) (N := 37) X hT m0 g0 rfl rfl 9 (by decide) qw_478 inlX13 rfl dX13_known_48 (fun v9176 hv9176 ov9176 => ?_)
        obtain rfl : v9176 = .int soz9157 := hv9176.symm.trans qsoz9157
        refine lv_iconst (v := 5) hx hb dX13_known_51 (by decide) ?_
        refine lv_icmp_ne (tgt := 59) hx hb dX13_known_52 (by decide) (fun c9177 => ?_) (fun c9177 => ?_)
        · have w9178 := cv_ne (rfl : soz9157.toInt = soz9157.toInt) (by decide : (5 : Int32).toInt = 5) c9177
          exfalso
          omega
        · have w9179 := cv_eq (rfl : soz9157.toInt = soz9157.toInt) (by decide : (5 : Int32).toInt = 5) c9177
          refine lv_iconst (v := 0) hx hb dX13_known_55 (by decide) ?_
          refine lv_goto (tgt := 68) hx hb dX13_known_56 (by decide) ?_
          have k9180 : (0 : Int32).toInt = 0 := by decide
          exact t_iret hQ X hT (⟨(by decide), hfr, hrel, ⟨soz9157, spz9157, faz9157, qsoz9157, qspz9157, qfaz9157, (by omega), (by omega), (by omega), hstk, hspt, hkf⟩⟩) (Nat.le_of_ble_eq_true rfl) (Nat.le_of_ble_eq_true rfl) dX13_known_68
      · have w9181 := cv_ne (rfl : z9173.toInt = z9173.toInt) (rfl : p1.toInt = p1.toInt) c9174
        refine lv_aload_n hx hb dX13_known_42 rfl (lv_at hl 1 rfl) ?_
        refine lv_iconst (v := 2) hx hb dX13_known_43 (by decide) ?_
        refine t_cVv (n := 1) (C := RX13) (T := TX13) (N := 37) (As := [.int 2]) (rest := []) X hT (km10_X13_flaw l G tag L F hT.2.2.2 p0 2 x0 x1 x2 soz9157 spz9157 faz9157 m0 g0 (by decide) mx0 gx0 pf0 mx1 gx1 pf1 mx2 gx2 pf2 (by omega) qsoz9157 (by omega) qspz9157 (by omega) qfaz9157 hkf) m0 g0 rfl rfl qw_548 qw_549 qw_550 qw_5 qw_551 ⟨rfl, by decide +kernel, by decide +kernel, by decide +kernel⟩ ⟨Nat.le_of_ble_eq_true rfl, Nat.le_of_ble_eq_true rfl⟩ hl rfl rfl (Nat.le_of_ble_eq_true rfl) dX13_known_44 ⟨Nat.le_of_ble_eq_true rfl, Nat.le_of_ble_eq_true rfl⟩ (fun F H locs hT hz9182 => ?_)
        obtain ⟨yz9182, ⟨soz9182, spz9182, faz9182, qsoz9182, qspz9182, qfaz9182, rsoz9182, rspz9182, rfaz9182, stz9182, ptz9182, hkf, pxz9182_0⟩⟩ := hz9182
        have pf0 := (yz9182.1 _ 4 (Or.inr (by decide)) (Or.inr (by decide)) (Or.inr (by decide))).trans pf0
        have pf1 := (yz9182.1 _ 28 (Or.inr (by decide)) (Or.inr (by decide)) (Or.inr (by decide))).trans pf1
        have pf2 := (yz9182.1 _ 29 (Or.inr (by decide)) (Or.inr (by decide)) (Or.inr (by decide))).trans pf2
        have qspz9157 := (yz9182.1 _ 8 (Or.inr (by decide)) (Or.inr (by decide)) (Or.inr (by decide))).trans qspz9157
        have vz9173 := (yz9182.2 _ _ ).trans vz9173
        have hfr : (∀ b j : Nat, (tag b ≠ 46 ∨ j ≠ 9) → (tag b ≠ 46 ∨ j ≠ 13) → (tag b ≠ 46 ∨ j ≠ 14) → fld F b j = fld Fo b j) ∧ (∀ b j : Nat, elm F b j = elm Fo b j) := ⟨fun b j n46_9 n46_13 n46_14 => (yz9182.1 b j n46_9 n46_13 n46_14).trans (hfr.1 b j n46_9 n46_13 n46_14), fun b j  => (yz9182.2 b j ).trans (hfr.2 b j )⟩
        have hrel := msr_of (fun j => yz9182.2 _ j ) (fun j => yz9182.2 _ j ) hrel
        have hstk := STK.tr hstk stz9182
        have hspt := SPT.tr hspt ptz9182
        have k5z9182 : soz9182.toInt = 5 := stz9182 (by omega)
        refine lv_aload_n hx hb dX13_known_47 rfl (lv_at hl 1 rfl) ?_
        refine t_get (C := RX13) (T := TX13) (N := 37) X hT m0 g0 rfl rfl 9 (by decide) qw_478 inlX13 rfl dX13_known_48 (fun v9183 hv9183 ov9183 => ?_)
        obtain rfl : v9183 = .int soz9182 := hv9183.symm.trans qsoz9182
        refine lv_iconst (v := 5) hx hb dX13_known_51 (by decide) ?_
        refine lv_icmp_ne (tgt := 59) hx hb dX13_known_52 (by decide) (fun c9184 => ?_) (fun c9184 => ?_)
        · have w9185 := cv_ne (rfl : soz9182.toInt = soz9182.toInt) (by decide : (5 : Int32).toInt = 5) c9184
          exfalso
          omega
        · have w9186 := cv_eq (rfl : soz9182.toInt = soz9182.toInt) (by decide : (5 : Int32).toInt = 5) c9184
          refine lv_iconst (v := 0) hx hb dX13_known_55 (by decide) ?_
          refine lv_goto (tgt := 68) hx hb dX13_known_56 (by decide) ?_
          have k9187 : (0 : Int32).toInt = 0 := by decide
          exact t_iret hQ X hT (⟨(by decide), hfr, hrel, ⟨soz9182, spz9182, faz9182, qsoz9182, qspz9182, qfaz9182, (by omega), (by omega), (by omega), hstk, hspt, hkf⟩⟩) (Nat.le_of_ble_eq_true rfl) (Nat.le_of_ble_eq_true rfl) dX13_known_68
