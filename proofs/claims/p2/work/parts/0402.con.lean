set_option maxHeartbeats 4000000 in
set_option maxRecDepth 100000 in
theorem km15_X13_begins (l : Launch) (G : KG) (tag : Nat → Nat) (L : List Nat) (Fo : Nat → va_E) (ho : okT G ttC tag L Fo) (p0 : Nat) (p1 : Int32) (p2 : Int32) (x0 : Nat) (x1 : Nat) (x2 : Nat) (x3 : Int32) (x4 : Int32) (x5 : Int32) (x6 : Int32) (m0 : p0 ∈ L) (g0 : tag p0 = 46) (mx0 : x0 ∈ L) (gx0 : tag x0 = 44) (pf0 : fld Fo p0 4 = .ref x0) (mx1 : x1 ∈ L) (gx1 : tag x1 = 35) (pf1 : fld Fo x0 28 = .ref x1) (mx2 : x2 ∈ L) (gx2 : tag x2 = 36) (pf2 : fld Fo x0 29 = .ref x2) (hx3 : 0 ≤ x3.toInt ∧ x3.toInt ≤ 5) (pf3 : fld Fo p0 9 = .int x3) (hx4 : 0 ≤ x4.toInt ∧ x4.toInt ≤ 1000) (pf4 : fld Fo p0 8 = .int x4) (hx5 : 0 ≤ x5.toInt ∧ x5.toInt ≤ 7) (pf5 : fld Fo p0 13 = .int x5) (hx6 : 0 ≤ x6.toInt ∧ x6.toInt ≤ 12) (pf6 : fld Fo x0 0 = .int x6) (hkf : KF x3 x5) : TMv l yX13_begins cX13_begins 3 { frames := 2, cells := 0, slots := 0, locals := 43 } G ttC tag L Fo [.ref p0, .int p1, .int p2] (fun F1 => ((∀ b j : Nat, (tag b ≠ 46 ∨ j ≠ 8) → (tag b ≠ 46 ∨ j ≠ 9) → (tag b ≠ 46 ∨ j ≠ 10) → (tag b ≠ 46 ∨ j ≠ 11) → (tag b ≠ 46 ∨ j ≠ 12) → (tag b ≠ 46 ∨ j ≠ 13) → (tag b ≠ 46 ∨ j ≠ 14) → (tag b ≠ 46 ∨ j ≠ 15) → fld F1 b j = fld Fo b j) ∧ (∀ b j : Nat, elm F1 b j = elm Fo b j)) ∧ (∃ so sp fa : Int32, fld F1 p0 9 = .int so ∧ fld F1 p0 8 = .int sp ∧ fld F1 p0 13 = .int fa ∧ (0 ≤ so.toInt ∧ so.toInt ≤ 5) ∧ (0 ≤ sp.toInt ∧ sp.toInt ≤ 1000) ∧ (0 ≤ fa.toInt ∧ fa.toInt ≤ 7) ∧ STK x3 so ∧ SPT x3 x4 so sp ∧ KF so fa ∧ (so.toInt ≠ 5 → p1.toInt ≠ p2.toInt ∧ 1 ≤ x6.toInt))) := by
  refine t_bodyv (y := yX13_begins) (cd := cX13_begins) (mL := 3) (rm := { frames := 2, cells := 0, slots := 0, locals := 43 }) (av := [.ref p0, .int p1, .int p2]) (by decide) (Nat.le_of_ble_eq_true rfl) ho ?_
  intro p e s m args below meth c ls A Q hQ X hT hl
  have hx := X.1.1
  have hb := X.1.2.1
  have hl : lv_has ls 3 [(0, .ref p0), (1, .int p1), (2, .int p2)] := hl
  have rp1 := rg_all p1
  have rp2 := rg_all p2
  obtain ⟨F, hFo⟩ : ∃ F : Nat → va_E, F = Fo := ⟨_, rfl⟩
  rw [← hFo] at hT pf0 pf1 pf2 pf3 pf4 pf5 pf6
  have hfr : (∀ b j : Nat, (tag b ≠ 46 ∨ j ≠ 8) → (tag b ≠ 46 ∨ j ≠ 9) → (tag b ≠ 46 ∨ j ≠ 10) → (tag b ≠ 46 ∨ j ≠ 11) → (tag b ≠ 46 ∨ j ≠ 12) → (tag b ≠ 46 ∨ j ≠ 13) → (tag b ≠ 46 ∨ j ≠ 14) → (tag b ≠ 46 ∨ j ≠ 15) → fld F b j = fld Fo b j) ∧ (∀ b j : Nat, elm F b j = elm Fo b j) := by
    rw [hFo]
    exact ⟨by intros; rfl, by intros; rfl⟩
  have hstk : STK x3 x3 := STK.rf
  have hspt : SPT x3 x4 x3 x4 := SPT.rf
  refine lv_iload_n hx hb dX13_begins_0 rfl (lv_at hl 1 rfl) ?_
  refine lv_iload_n hx hb dX13_begins_1 rfl (lv_at hl 2 rfl) ?_
  refine lv_icmp_ne (tgt := 10) hx hb dX13_begins_2 (by decide) (fun c7268 => ?_) (fun c7268 => ?_)
  · have w7269 := cv_ne (rfl : p1.toInt = p1.toInt) (rfl : p2.toInt = p2.toInt) c7268
    refine lv_aload_n hx hb dX13_begins_10 rfl (lv_at hl 0 rfl) ?_
    refine t_get (C := RX13) (T := TX13) (N := 37) X hT m0 g0 rfl rfl 4 (by decide) qw_477 inlX13 rfl dX13_begins_11 (fun v7270 hv7270 ov7270 => ?_)
    obtain rfl : v7270 = .ref x0 := hv7270.symm.trans pf0
    refine t_getN (C := RX12) (T := TX12) (N := 31) X hT mx0 gx0 rfl rfl 0 (by decide) (List.mem_of_getElem? (i := 4) rfl) inlX12 rfl dX13_begins_14 (fun v7271 hv7271 ov7271 => ?_)
    obtain rfl : v7271 = .int x6 := hv7271.symm.trans pf6
    refine lv_if_ne (tgt := 26) hx hb dX13_begins_17 (by decide) (fun c7272 => ?_) (fun c7272 => ?_)
    · have w7273 := cv_ne (rfl : x6.toInt = x6.toInt) (by decide : (0 : Int32).toInt = 0) c7272
      refine lv_aload_n hx hb dX13_begins_26 rfl (lv_at hl 0 rfl) ?_
      refine t_cVv (n := 0) (C := RX13) (T := TX13) (N := 37) (As := []) (rest := []) X hT (km14_X13_goesOn l G tag L F hT.2.2.2 p0 x0 x1 x2 x3 x4 x5 m0 g0 mx0 gx0 pf0 mx1 gx1 pf1 mx2 gx2 pf2 (by omega) pf3 (by omega) pf4 (by omega) pf5 hkf) m0 g0 rfl rfl qw_508 qw_509 qw_510 qw_5 qw_511 ⟨rfl, by decide +kernel, by decide +kernel, by decide +kernel⟩ ⟨Nat.le_of_ble_eq_true rfl, Nat.le_of_ble_eq_true rfl⟩ hl rfl rfl (Nat.le_of_ble_eq_true rfl) dX13_begins_27 ⟨Nat.le_of_ble_eq_true rfl, Nat.le_of_ble_eq_true rfl⟩ (fun F H locs hT hz7274 => ?_)
      obtain ⟨yz7274, ⟨soz7274, spz7274, faz7274, qsoz7274, qspz7274, qfaz7274, rsoz7274, rspz7274, rfaz7274, stz7274, ptz7274, hkf⟩⟩ := hz7274
      have pf0 := (yz7274.1 _ 4 (Or.inr (by decide)) (Or.inr (by decide)) (Or.inr (by decide)) (Or.inr (by decide)) (Or.inr (by decide)) (Or.inr (by decide))).trans pf0
      have pf1 := (yz7274.1 _ 28 (Or.inr (by decide)) (Or.inr (by decide)) (Or.inr (by decide)) (Or.inr (by decide)) (Or.inr (by decide)) (Or.inr (by decide))).trans pf1
      have pf2 := (yz7274.1 _ 29 (Or.inr (by decide)) (Or.inr (by decide)) (Or.inr (by decide)) (Or.inr (by decide)) (Or.inr (by decide)) (Or.inr (by decide))).trans pf2
      have pf5 := (yz7274.1 _ 13 (Or.inr (by decide)) (Or.inr (by decide)) (Or.inr (by decide)) (Or.inr (by decide)) (Or.inr (by decide)) (Or.inr (by decide))).trans pf5
      have pf6 := (yz7274.1 _ 0 (Or.inr (by decide)) (Or.inr (by decide)) (Or.inr (by decide)) (Or.inr (by decide)) (Or.inr (by decide)) (Or.inr (by decide))).trans pf6
      have hfr : (∀ b j : Nat, (tag b ≠ 46 ∨ j ≠ 8) → (tag b ≠ 46 ∨ j ≠ 9) → (tag b ≠ 46 ∨ j ≠ 10) → (tag b ≠ 46 ∨ j ≠ 11) → (tag b ≠ 46 ∨ j ≠ 12) → (tag b ≠ 46 ∨ j ≠ 13) → (tag b ≠ 46 ∨ j ≠ 14) → (tag b ≠ 46 ∨ j ≠ 15) → fld F b j = fld Fo b j) ∧ (∀ b j : Nat, elm F b j = elm Fo b j) := ⟨fun b j n46_8 n46_9 n46_10 n46_11 n46_12 n46_13 n46_14 n46_15 => (yz7274.1 b j n46_8 n46_9 n46_10 n46_11 n46_12 n46_15).trans (hfr.1 b j n46_8 n46_9 n46_10 n46_11 n46_12 n46_13 n46_14 n46_15), fun b j  => (yz7274.2 b j ).trans (hfr.2 b j )⟩
      have hstk := STK.tr hstk stz7274
      have hspt := SPT.tr hspt ptz7274
      have usz7274 : x3.toInt = 5 → soz7274.toInt = 5 := stz7274
      exact t_vret hQ X hT ⟨hfr, ⟨soz7274, spz7274, faz7274, qsoz7274, qspz7274, qfaz7274, (by omega), (by omega), (by omega), hstk, hspt, hkf, (by omega)⟩⟩ (Nat.le_of_ble_eq_true rfl) (Nat.le_of_ble_eq_true rfl) dX13_begins_30
    · have w7275 := cv_eq (rfl : x6.toInt = x6.toInt) (by decide : (0 : Int32).toInt = 0) c7272
      refine lv_aload_n hx hb dX13_begins_20 rfl (lv_at hl 0 rfl) ?_
      refine lv_bipush (v := 6) hx hb dX13_begins_21 (by decide) ?_
      refine t_cVv (n := 1) (C := RX13) (T := TX13) (N := 37) (As := [.int 6]) (rest := []) X hT (km10_X13_flaw l G tag L F hT.2.2.2 p0 6 x0 x1 x2 x3 x4 x5 m0 g0 (by decide) mx0 gx0 pf0 mx1 gx1 pf1 mx2 gx2 pf2 (by omega) pf3 (by omega) pf4 (by omega) pf5 hkf) m0 g0 rfl rfl qw_548 qw_549 qw_550 qw_5 qw_551 ⟨rfl, by decide +kernel, by decide +kernel, by decide +kernel⟩ ⟨Nat.le_of_ble_eq_true rfl, Nat.le_of_ble_eq_true rfl⟩ hl rfl rfl (Nat.le_of_ble_eq_true rfl) dX13_begins_23 ⟨Nat.le_of_ble_eq_true rfl, Nat.le_of_ble_eq_true rfl⟩ (fun F H locs hT hz7276 => ?_)
      obtain ⟨yz7276, ⟨soz7276, spz7276, faz7276, qsoz7276, qspz7276, qfaz7276, rsoz7276, rspz7276, rfaz7276, stz7276, ptz7276, hkf, pxz7276_0⟩⟩ := hz7276
      have pf0 := (yz7276.1 _ 4 (Or.inr (by decide)) (Or.inr (by decide)) (Or.inr (by decide))).trans pf0
      have pf1 := (yz7276.1 _ 28 (Or.inr (by decide)) (Or.inr (by decide)) (Or.inr (by decide))).trans pf1
      have pf2 := (yz7276.1 _ 29 (Or.inr (by decide)) (Or.inr (by decide)) (Or.inr (by decide))).trans pf2
      have pf4 := (yz7276.1 _ 8 (Or.inr (by decide)) (Or.inr (by decide)) (Or.inr (by decide))).trans pf4
      have pf6 := (yz7276.1 _ 0 (Or.inr (by decide)) (Or.inr (by decide)) (Or.inr (by decide))).trans pf6
      have hfr : (∀ b j : Nat, (tag b ≠ 46 ∨ j ≠ 8) → (tag b ≠ 46 ∨ j ≠ 9) → (tag b ≠ 46 ∨ j ≠ 10) → (tag b ≠ 46 ∨ j ≠ 11) → (tag b ≠ 46 ∨ j ≠ 12) → (tag b ≠ 46 ∨ j ≠ 13) → (tag b ≠ 46 ∨ j ≠ 14) → (tag b ≠ 46 ∨ j ≠ 15) → fld F b j = fld Fo b j) ∧ (∀ b j : Nat, elm F b j = elm Fo b j) := ⟨fun b j n46_8 n46_9 n46_10 n46_11 n46_12 n46_13 n46_14 n46_15 => (yz7276.1 b j n46_9 n46_13 n46_14).trans (hfr.1 b j n46_8 n46_9 n46_10 n46_11 n46_12 n46_13 n46_14 n46_15), fun b j  => (yz7276.2 b j ).trans (hfr.2 b j )⟩
      have hstk := STK.tr hstk stz7276
      have hspt := SPT.tr hspt ptz7276
      have usz7276 : x3.toInt = 5 → soz7276.toInt = 5 := stz7276
      refine lv_aload_n hx hb dX13_begins_26 rfl (lv_at hl 0 rfl) ?_
      refine t_cVv (n := 0) (C := RX13) (T := TX13) (N := 37) (As := []) (rest := []) X hT (km14_X13_goesOn l G tag L F hT.2.2.2 p0 x0 x1 x2 soz7276 spz7276 faz7276 m0 g0 mx0 gx0 pf0 mx1 gx1 pf1 mx2 gx2 pf2 (by omega) qsoz7276 (by omega) qspz7276 (by omega) qfaz7276 hkf) m0 g0 rfl rfl qw_508 qw_509 qw_510 qw_5 qw_511 ⟨rfl, by decide +kernel, by decide +kernel, by decide +kernel⟩ ⟨Nat.le_of_ble_eq_true rfl, Nat.le_of_ble_eq_true rfl⟩ hl rfl rfl (Nat.le_of_ble_eq_true rfl) dX13_begins_27 ⟨Nat.le_of_ble_eq_true rfl, Nat.le_of_ble_eq_true rfl⟩ (fun F H locs hT hz7277 => ?_)
      obtain ⟨yz7277, ⟨soz7277, spz7277, faz7277, qsoz7277, qspz7277, qfaz7277, rsoz7277, rspz7277, rfaz7277, stz7277, ptz7277, hkf⟩⟩ := hz7277
      have pf0 := (yz7277.1 _ 4 (Or.inr (by decide)) (Or.inr (by decide)) (Or.inr (by decide)) (Or.inr (by decide)) (Or.inr (by decide)) (Or.inr (by decide))).trans pf0
      have pf1 := (yz7277.1 _ 28 (Or.inr (by decide)) (Or.inr (by decide)) (Or.inr (by decide)) (Or.inr (by decide)) (Or.inr (by decide)) (Or.inr (by decide))).trans pf1
      have pf2 := (yz7277.1 _ 29 (Or.inr (by decide)) (Or.inr (by decide)) (Or.inr (by decide)) (Or.inr (by decide)) (Or.inr (by decide)) (Or.inr (by decide))).trans pf2
      have pf6 := (yz7277.1 _ 0 (Or.inr (by decide)) (Or.inr (by decide)) (Or.inr (by decide)) (Or.inr (by decide)) (Or.inr (by decide)) (Or.inr (by decide))).trans pf6
      have qfaz7276 := (yz7277.1 _ 13 (Or.inr (by decide)) (Or.inr (by decide)) (Or.inr (by decide)) (Or.inr (by decide)) (Or.inr (by decide)) (Or.inr (by decide))).trans qfaz7276
      have hfr : (∀ b j : Nat, (tag b ≠ 46 ∨ j ≠ 8) → (tag b ≠ 46 ∨ j ≠ 9) → (tag b ≠ 46 ∨ j ≠ 10) → (tag b ≠ 46 ∨ j ≠ 11) → (tag b ≠ 46 ∨ j ≠ 12) → (tag b ≠ 46 ∨ j ≠ 13) → (tag b ≠ 46 ∨ j ≠ 14) → (tag b ≠ 46 ∨ j ≠ 15) → fld F b j = fld Fo b j) ∧ (∀ b j : Nat, elm F b j = elm Fo b j) := ⟨fun b j n46_8 n46_9 n46_10 n46_11 n46_12 n46_13 n46_14 n46_15 => (yz7277.1 b j n46_8 n46_9 n46_10 n46_11 n46_12 n46_15).trans (hfr.1 b j n46_8 n46_9 n46_10 n46_11 n46_12 n46_13 n46_14 n46_15), fun b j  => (yz7277.2 b j ).trans (hfr.2 b j )⟩
      have hstk := STK.tr hstk stz7277
      have hspt := SPT.tr hspt ptz7277
      have usz7277 : soz7276.toInt = 5 → soz7277.toInt = 5 := stz7277
      have k5z7277 : soz7277.toInt = 5 := stz7277 (by omega)
      exact t_vret hQ X hT ⟨hfr, ⟨soz7277, spz7277, faz7277, qsoz7277, qspz7277, qfaz7277, (by omega), (by omega), (by omega), hstk, hspt, hkf, (by omega)⟩⟩ (Nat.le_of_ble_eq_true rfl) (Nat.le_of_ble_eq_true rfl) dX13_begins_30
  · have w7278 := cv_eq (rfl : p1.toInt = p1.toInt) (rfl : p2.toInt = p2.toInt) c7268
    refine lv_aload_n hx hb dX13_begins_5 rfl (lv_at hl 0 rfl) ?_
    refine lv_iconst (v := 5) hx hb dX13_begins_6 (by decide) ?_
    refine t_cVv (n := 1) (C := RX13) (T := TX13) (N := 37) (As := [.int 5]) (rest := []) X hT (km10_X13_flaw l G tag L F hT.2.2.2 p0 5 x0 x1 x2 x3 x4 x5 m0 g0 (by decide) mx0 gx0 pf0 mx1 gx1 pf1 mx2 gx2 pf2 (by omega) pf3 (by omega) pf4 (by omega) pf5 hkf) m0 g0 rfl rfl qw_548 qw_549 qw_550 qw_5 qw_551 ⟨rfl, by decide +kernel, by decide +kernel, by decide +kernel⟩ ⟨Nat.le_of_ble_eq_true rfl, Nat.le_of_ble_eq_true rfl⟩ hl rfl rfl (Nat.le_of_ble_eq_true rfl) dX13_begins_7 ⟨Nat.le_of_ble_eq_true rfl, Nat.le_of_ble_eq_true rfl⟩ (fun F H locs hT hz7279 => ?_)
    obtain ⟨yz7279, ⟨soz7279, spz7279, faz7279, qsoz7279, qspz7279, qfaz7279, rsoz7279, rspz7279, rfaz7279, stz7279, ptz7279, hkf, pxz7279_0⟩⟩ := hz7279
    have pf0 := (yz7279.1 _ 4 (Or.inr (by decide)) (Or.inr (by decide)) (Or.inr (by decide))).trans pf0
    have pf1 := (yz7279.1 _ 28 (Or.inr (by decide)) (Or.inr (by decide)) (Or.inr (by decide))).trans pf1
    have pf2 := (yz7279.1 _ 29 (Or.inr (by decide)) (Or.inr (by decide)) (Or.inr (by decide))).trans pf2
    have pf4 := (yz7279.1 _ 8 (Or.inr (by decide)) (Or.inr (by decide)) (Or.inr (by decide))).trans pf4
    have pf6 := (yz7279.1 _ 0 (Or.inr (by decide)) (Or.inr (by decide)) (Or.inr (by decide))).trans pf6
    have hfr : (∀ b j : Nat, (tag b ≠ 46 ∨ j ≠ 8) → (tag b ≠ 46 ∨ j ≠ 9) → (tag b ≠ 46 ∨ j ≠ 10) → (tag b ≠ 46 ∨ j ≠ 11) → (tag b ≠ 46 ∨ j ≠ 12) → (tag b ≠ 46 ∨ j ≠ 13) → (tag b ≠ 46 ∨ j ≠ 14) → (tag b ≠ 46 ∨ j ≠ 15) → fld F b j = fld Fo b j) ∧ (∀ b j : Nat, elm F b j = elm Fo b j) := ⟨fun b j n46_8 n46_9 n46_10 n46_11 n46_12 n46_13 n46_14 n46_15 => (yz7279.1 b j n46_9 n46_13 n46_14).trans (hfr.1 b j n46_8 n46_9 n46_10 n46_11 n46_12 n46_13 n46_14 n46_15), fun b j  => (yz7279.2 b j ).trans (hfr.2 b j )⟩
    have hstk := STK.tr hstk stz7279
    have hspt := SPT.tr hspt ptz7279
    have usz7279 : x3.toInt = 5 → soz7279.toInt = 5 := stz7279
    refine lv_aload_n hx hb dX13_begins_10 rfl (lv_at hl 0 rfl) ?_
    refine t_get (C := RX13) (T := TX13) (N := 37) X hT m0 g0 rfl rfl 4 (by decide) qw_477 inlX13 rfl dX13_begins_11 (fun v7280 hv7280 ov7280 => ?_)
    obtain rfl : v7280 = .ref x0 := hv7280.symm.trans pf0
    refine t_getN (C := RX12) (T := TX12) (N := 31) X hT mx0 gx0 rfl rfl 0 (by decide) (List.mem_of_getElem? (i := 4) rfl) inlX12 rfl dX13_begins_14 (fun v7281 hv7281 ov7281 => ?_)
    obtain rfl : v7281 = .int x6 := hv7281.symm.trans pf6
    refine lv_if_ne (tgt := 26) hx hb dX13_begins_17 (by decide) (fun c7282 => ?_) (fun c7282 => ?_)
    · have w7283 := cv_ne (rfl : x6.toInt = x6.toInt) (by decide : (0 : Int32).toInt = 0) c7282
      refine lv_aload_n hx hb dX13_begins_26 rfl (lv_at hl 0 rfl) ?_
      refine t_cVv (n := 0) (C := RX13) (T := TX13) (N := 37) (As := []) (rest := []) X hT (km14_X13_goesOn l G tag L F hT.2.2.2 p0 x0 x1 x2 soz7279 spz7279 faz7279 m0 g0 mx0 gx0 pf0 mx1 gx1 pf1 mx2 gx2 pf2 (by omega) qsoz7279 (by omega) qspz7279 (by omega) qfaz7279 hkf) m0 g0 rfl rfl qw_508 qw_509 qw_510 qw_5 qw_511 ⟨rfl, by decide +kernel, by decide +kernel, by decide +kernel⟩ ⟨Nat.le_of_ble_eq_true rfl, Nat.le_of_ble_eq_true rfl⟩ hl rfl rfl (Nat.le_of_ble_eq_true rfl) dX13_begins_27 ⟨Nat.le_of_ble_eq_true rfl, Nat.le_of_ble_eq_true rfl⟩ (fun F H locs hT hz7284 => ?_)
      obtain ⟨yz7284, ⟨soz7284, spz7284, faz7284, qsoz7284, qspz7284, qfaz7284, rsoz7284, rspz7284, rfaz7284, stz7284, ptz7284, hkf⟩⟩ := hz7284
      have pf0 := (yz7284.1 _ 4 (Or.inr (by decide)) (Or.inr (by decide)) (Or.inr (by decide)) (Or.inr (by decide)) (Or.inr (by decide)) (Or.inr (by decide))).trans pf0
      have pf1 := (yz7284.1 _ 28 (Or.inr (by decide)) (Or.inr (by decide)) (Or.inr (by decide)) (Or.inr (by decide)) (Or.inr (by decide)) (Or.inr (by decide))).trans pf1
      have pf2 := (yz7284.1 _ 29 (Or.inr (by decide)) (Or.inr (by decide)) (Or.inr (by decide)) (Or.inr (by decide)) (Or.inr (by decide)) (Or.inr (by decide))).trans pf2
      have pf6 := (yz7284.1 _ 0 (Or.inr (by decide)) (Or.inr (by decide)) (Or.inr (by decide)) (Or.inr (by decide)) (Or.inr (by decide)) (Or.inr (by decide))).trans pf6
      have qfaz7279 := (yz7284.1 _ 13 (Or.inr (by decide)) (Or.inr (by decide)) (Or.inr (by decide)) (Or.inr (by decide)) (Or.inr (by decide)) (Or.inr (by decide))).trans qfaz7279
      have hfr : (∀ b j : Nat, (tag b ≠ 46 ∨ j ≠ 8) → (tag b ≠ 46 ∨ j ≠ 9) → (tag b ≠ 46 ∨ j ≠ 10) → (tag b ≠ 46 ∨ j ≠ 11) → (tag b ≠ 46 ∨ j ≠ 12) → (tag b ≠ 46 ∨ j ≠ 13) → (tag b ≠ 46 ∨ j ≠ 14) → (tag b ≠ 46 ∨ j ≠ 15) → fld F b j = fld Fo b j) ∧ (∀ b j : Nat, elm F b j = elm Fo b j) := ⟨fun b j n46_8 n46_9 n46_10 n46_11 n46_12 n46_13 n46_14 n46_15 => (yz7284.1 b j n46_8 n46_9 n46_10 n46_11 n46_12 n46_15).trans (hfr.1 b j n46_8 n46_9 n46_10 n46_11 n46_12 n46_13 n46_14 n46_15), fun b j  => (yz7284.2 b j ).trans (hfr.2 b j )⟩
      have hstk := STK.tr hstk stz7284
      have hspt := SPT.tr hspt ptz7284
      have usz7284 : soz7279.toInt = 5 → soz7284.toInt = 5 := stz7284
      have k5z7284 : soz7284.toInt = 5 := stz7284 (by omega)
      exact t_vret hQ X hT ⟨hfr, ⟨soz7284, spz7284, faz7284, qsoz7284, qspz7284, qfaz7284, (by omega), (by omega), (by omega), hstk, hspt, hkf, (by omega)⟩⟩ (Nat.le_of_ble_eq_true rfl) (Nat.le_of_ble_eq_true rfl) dX13_begins_30
    · have w7285 := cv_eq (rfl : x6.toInt = x6.toInt) (by decide : (0 : Int32).toInt = 0) c7282
      refine lv_aload_n hx hb dX13_begins_20 rfl (lv_at hl 0 rfl) ?_
      refine lv_bipush (v := 6) hx hb dX13_begins_21 (by decide) ?_
      refine t_cVv (n := 1) (C := RX13) (T := TX13) (N := 37) (As := [.int 6]) (rest := []) X hT (km10_X13_flaw l G tag L F hT.2.2.2 p0 6 x0 x1 x2 soz7279 spz7279 faz7279 m0 g0 (by decide) mx0 gx0 pf0 mx1 gx1 pf1 mx2 gx2 pf2 (by omega) qsoz7279 (by omega) qspz7279 (by omega) qfaz7279 hkf) m0 g0 rfl rfl qw_548 qw_549 qw_550 qw_5 qw_551 ⟨rfl, by decide +kernel, by decide +kernel, by decide +kernel⟩ ⟨Nat.le_of_ble_eq_true rfl, Nat.le_of_ble_eq_true rfl⟩ hl rfl rfl (Nat.le_of_ble_eq_true rfl) dX13_begins_23 ⟨Nat.le_of_ble_eq_true rfl, Nat.le_of_ble_eq_true rfl⟩ (fun F H locs hT hz7286 => ?_)
      obtain ⟨yz7286, ⟨soz7286, spz7286, faz7286, qsoz7286, qspz7286, qfaz7286, rsoz7286, rspz7286, rfaz7286, stz7286, ptz7286, hkf, pxz7286_0⟩⟩ := hz7286
      have pf0 := (yz7286.1 _ 4 (Or.inr (by decide)) (Or.inr (by decide)) (Or.inr (by decide))).trans pf0
      have pf1 := (yz7286.1 _ 28 (Or.inr (by decide)) (Or.inr (by decide)) (Or.inr (by decide))).trans pf1
      have pf2 := (yz7286.1 _ 29 (Or.inr (by decide)) (Or.inr (by decide)) (Or.inr (by decide))).trans pf2
      have qspz7279 := (yz7286.1 _ 8 (Or.inr (by decide)) (Or.inr (by decide)) (Or.inr (by decide))).trans qspz7279
      have pf6 := (yz7286.1 _ 0 (Or.inr (by decide)) (Or.inr (by decide)) (Or.inr (by decide))).trans pf6
      have hfr : (∀ b j : Nat, (tag b ≠ 46 ∨ j ≠ 8) → (tag b ≠ 46 ∨ j ≠ 9) → (tag b ≠ 46 ∨ j ≠ 10) → (tag b ≠ 46 ∨ j ≠ 11) → (tag b ≠ 46 ∨ j ≠ 12) → (tag b ≠ 46 ∨ j ≠ 13) → (tag b ≠ 46 ∨ j ≠ 14) → (tag b ≠ 46 ∨ j ≠ 15) → fld F b j = fld Fo b j) ∧ (∀ b j : Nat, elm F b j = elm Fo b j) := ⟨fun b j n46_8 n46_9 n46_10 n46_11 n46_12 n46_13 n46_14 n46_15 => (yz7286.1 b j n46_9 n46_13 n46_14).trans (hfr.1 b j n46_8 n46_9 n46_10 n46_11 n46_12 n46_13 n46_14 n46_15), fun b j  => (yz7286.2 b j ).trans (hfr.2 b j )⟩
      have hstk := STK.tr hstk stz7286
      have hspt := SPT.tr hspt ptz7286
      have usz7286 : soz7279.toInt = 5 → soz7286.toInt = 5 := stz7286
      have k5z7286 : soz7286.toInt = 5 := stz7286 (by omega)
      refine lv_aload_n hx hb dX13_begins_26 rfl (lv_at hl 0 rfl) ?_
      refine t_cVv (n := 0) (C := RX13) (T := TX13) (N := 37) (As := []) (rest := []) X hT (km14_X13_goesOn l G tag L F hT.2.2.2 p0 x0 x1 x2 soz7286 spz7286 faz7286 m0 g0 mx0 gx0 pf0 mx1 gx1 pf1 mx2 gx2 pf2 (by omega) qsoz7286 (by omega) qspz7286 (by omega) qfaz7286 hkf) m0 g0 rfl rfl qw_508 qw_509 qw_510 qw_5 qw_511 ⟨rfl, by decide +kernel, by decide +kernel, by decide +kernel⟩ ⟨Nat.le_of_ble_eq_true rfl, Nat.le_of_ble_eq_true rfl⟩ hl rfl rfl (Nat.le_of_ble_eq_true rfl) dX13_begins_27 ⟨Nat.le_of_ble_eq_true rfl, Nat.le_of_ble_eq_true rfl⟩ (fun F H locs hT hz7287 => ?_)
      obtain ⟨yz7287, ⟨soz7287, spz7287, faz7287, qsoz7287, qspz7287, qfaz7287, rsoz7287, rspz7287, rfaz7287, stz7287, ptz7287, hkf⟩⟩ := hz7287
      have pf0 := (yz7287.1 _ 4 (Or.inr (by decide)) (Or.inr (by decide)) (Or.inr (by decide)) (Or.inr (by decide)) (Or.inr (by decide)) (Or.inr (by decide))).trans pf0
      have pf1 := (yz7287.1 _ 28 (Or.inr (by decide)) (Or.inr (by decide)) (Or.inr (by decide)) (Or.inr (by decide)) (Or.inr (by decide)) (Or.inr (by decide))).trans pf1
      have pf2 := (yz7287.1 _ 29 (Or.inr (by decide)) (Or.inr (by decide)) (Or.inr (by decide)) (Or.inr (by decide)) (Or.inr (by decide)) (Or.inr (by decide))).trans pf2
      have pf6 := (yz7287.1 _ 0 (Or.inr (by decide)) (Or.inr (by decide)) (Or.inr (by decide)) (Or.inr (by decide)) (Or.inr (by decide)) (Or.inr (by decide))).trans pf6
      have qfaz7286 := (yz7287.1 _ 13 (Or.inr (by decide)) (Or.inr (by decide)) (Or.inr (by decide)) (Or.inr (by decide)) (Or.inr (by decide)) (Or.inr (by decide))).trans qfaz7286
      have hfr : (∀ b j : Nat, (tag b ≠ 46 ∨ j ≠ 8) → (tag b ≠ 46 ∨ j ≠ 9) → (tag b ≠ 46 ∨ j ≠ 10) → (tag b ≠ 46 ∨ j ≠ 11) → (tag b ≠ 46 ∨ j ≠ 12) → (tag b ≠ 46 ∨ j ≠ 13) → (tag b ≠ 46 ∨ j ≠ 14) → (tag b ≠ 46 ∨ j ≠ 15) → fld F b j = fld Fo b j) ∧ (∀ b j : Nat, elm F b j = elm Fo b j) := ⟨fun b j n46_8 n46_9 n46_10 n46_11 n46_12 n46_13 n46_14 n46_15 => (yz7287.1 b j n46_8 n46_9 n46_10 n46_11 n46_12 n46_15).trans (hfr.1 b j n46_8 n46_9 n46_10 n46_11 n46_12 n46_13 n46_14 n46_15), fun b j  => (yz7287.2 b j ).trans (hfr.2 b j )⟩
      have hstk := STK.tr hstk stz7287
      have hspt := SPT.tr hspt ptz7287
      have usz7287 : soz7286.toInt = 5 → soz7287.toInt = 5 := stz7287
      have k5z7287 : soz7287.toInt = 5 := stz7287 (by omega)
      exact t_vret hQ X hT ⟨hfr, ⟨soz7287, spz7287, faz7287, qsoz7287, qspz7287, qfaz7287, (by omega), (by omega), (by omega), hstk, hspt, hkf, (by omega)⟩⟩ (Nat.le_of_ble_eq_true rfl) (Nat.le_of_ble_eq_true rfl) dX13_begins_30
set_option maxHeartbeats 4000000 in
set_option maxRecDepth 100000 in
theorem km16_X13_isName (l : Launch) (G : KG) (tag : Nat → Nat) (L : List Nat) (F : Nat → va_E) (ho : okT G ttC tag L F) (p0 : Nat) (x0 : Int32) (m0 : p0 ∈ L) (g0 : tag p0 = 46) (hx0 : 0 ≤ x0.toInt ∧ x0.toInt ≤ 5) (pf0 : fld F p0 9 = .int x0) : TMi l yX13_isName cX13_isName 1 (some .boolean) { frames := 6, cells := 0, slots := 0, locals := 129 } G ttC tag L F [.ref p0] (fun r F1 => F1 = F ∧ (0 ≤ r.toInt ∧ r.toInt ≤ 1)) := by
  refine t_bodyi (y := yX13_isName) (cd := cX13_isName) (mL := 1) (rt := (some .boolean)) (rm := { frames := 6, cells := 0, slots := 0, locals := 129 }) (av := [.ref p0]) (by decide) (Nat.le_of_ble_eq_true rfl) ho ?_
  intro p e s m args below meth c ls A Q hQ X hT hl
  have hx := X.1.1
  have hb := X.1.2.1
  have hl : lv_has ls 1 [(0, .ref p0)] := hl
  refine lv_aload_n hx hb dX13_isName_0 rfl (lv_at hl 0 rfl) ?_
  refine t_get (C := RX13) (T := TX13) (N := 37) X hT m0 g0 rfl rfl 9 (by decide) qw_478 inlX13 rfl dX13_isName_1 (fun v7820 hv7820 ov7820 => ?_)
  obtain rfl : v7820 = .int x0 := hv7820.symm.trans pf0
  refine lv_iconst (v := 2) hx hb dX13_isName_4 (by decide) ?_
  refine lv_icmp_ne (tgt := 62) hx hb dX13_isName_5 (by decide) (fun c7821 => ?_) (fun c7821 => ?_)
  · have w7822 := cv_ne (rfl : x0.toInt = x0.toInt) (by decide : (2 : Int32).toInt = 2) c7821
    refine lv_iconst (v := 0) hx hb dX13_isName_62 (by decide) ?_
    have k7823 : (0 : Int32).toInt = 0 := by decide
    exact t_zret hQ X hT (by decide) (⟨rfl, (by decide)⟩) (Nat.le_of_ble_eq_true rfl) (Nat.le_of_ble_eq_true rfl) dX13_isName_63
  · have w7824 := cv_eq (rfl : x0.toInt = x0.toInt) (by decide : (2 : Int32).toInt = 2) c7821
    refine lv_aload_n hx hb dX13_isName_8 rfl (lv_at hl 0 rfl) ?_
    refine m_ldcK X 39 rfl dX13_isName_9 ?_
    refine t_cVi (n := 1) (C := RX13) (T := TX13) (N := 37) (As := [.ref (G.2 (100 + 39))]) (rest := []) X hT (km9_X13_isWord l G tag L F hT.2.2.2 p0 39 x0 m0 g0 (by decide) (by omega) pf0) m0 g0 rfl rfl qw_535 qw_536 qw_537 qw_5 qw_538 ⟨rfl, by decide +kernel, by decide +kernel, by decide +kernel⟩ ⟨Nat.le_of_ble_eq_true rfl, Nat.le_of_ble_eq_true rfl⟩ hl rfl rfl (Nat.le_of_ble_eq_true rfl) dX13_isName_11 ⟨Nat.le_of_ble_eq_true rfl, Nat.le_of_ble_eq_true rfl⟩ (fun z7825 F9 H locs hT hz7825 => ?_)
    obtain ⟨fz7825, hz7825, xz7825_0⟩ := hz7825
    rw [fz7825] at hT
    refine lv_if_ne (tgt := 62) hx hb dX13_isName_14 (by decide) (fun c7826 => ?_) (fun c7826 => ?_)
    · have w7827 := cv_ne (rfl : z7825.toInt = z7825.toInt) (by decide : (0 : Int32).toInt = 0) c7826
      refine lv_iconst (v := 0) hx hb dX13_isName_62 (by decide) ?_
      have k7828 : (0 : Int32).toInt = 0 := by decide
      exact t_zret hQ X hT (by decide) (⟨rfl, (by decide)⟩) (Nat.le_of_ble_eq_true rfl) (Nat.le_of_ble_eq_true rfl) dX13_isName_63
    · have w7829 := cv_eq (rfl : z7825.toInt = z7825.toInt) (by decide : (0 : Int32).toInt = 0) c7826
      refine lv_aload_n hx hb dX13_isName_17 rfl (lv_at hl 0 rfl) ?_
      refine m_ldcK X 48 rfl dX13_isName_18 ?_
      refine t_cVi (n := 1) (C := RX13) (T := TX13) (N := 37) (As := [.ref (G.2 (100 + 48))]) (rest := []) X hT (km9_X13_isWord l G tag L F hT.2.2.2 p0 48 x0 m0 g0 (by decide) (by omega) pf0) m0 g0 rfl rfl qw_535 qw_536 qw_537 qw_5 qw_538 ⟨rfl, by decide +kernel, by decide +kernel, by decide +kernel⟩ ⟨Nat.le_of_ble_eq_true rfl, Nat.le_of_ble_eq_true rfl⟩ hl rfl rfl (Nat.le_of_ble_eq_true rfl) dX13_isName_20 ⟨Nat.le_of_ble_eq_true rfl, Nat.le_of_ble_eq_true rfl⟩ (fun z7830 F9 H locs hT hz7830 => ?_)
      obtain ⟨fz7830, hz7830, xz7830_0⟩ := hz7830
      rw [fz7830] at hT
      refine lv_if_ne (tgt := 62) hx hb dX13_isName_23 (by decide) (fun c7831 => ?_) (fun c7831 => ?_)
      · have w7832 := cv_ne (rfl : z7830.toInt = z7830.toInt) (by decide : (0 : Int32).toInt = 0) c7831
        refine lv_iconst (v := 0) hx hb dX13_isName_62 (by decide) ?_
        have k7833 : (0 : Int32).toInt = 0 := by decide
        exact t_zret hQ X hT (by decide) (⟨rfl, (by decide)⟩) (Nat.le_of_ble_eq_true rfl) (Nat.le_of_ble_eq_true rfl) dX13_isName_63
      · have w7834 := cv_eq (rfl : z7830.toInt = z7830.toInt) (by decide : (0 : Int32).toInt = 0) c7831
        refine lv_aload_n hx hb dX13_isName_26 rfl (lv_at hl 0 rfl) ?_
        refine m_ldcK X 52 rfl dX13_isName_27 ?_
        refine t_cVi (n := 1) (C := RX13) (T := TX13) (N := 37) (As := [.ref (G.2 (100 + 52))]) (rest := []) X hT (km9_X13_isWord l G tag L F hT.2.2.2 p0 52 x0 m0 g0 (by decide) (by omega) pf0) m0 g0 rfl rfl qw_535 qw_536 qw_537 qw_5 qw_538 ⟨rfl, by decide +kernel, by decide +kernel, by decide +kernel⟩ ⟨Nat.le_of_ble_eq_true rfl, Nat.le_of_ble_eq_true rfl⟩ hl rfl rfl (Nat.le_of_ble_eq_true rfl) dX13_isName_29 ⟨Nat.le_of_ble_eq_true rfl, Nat.le_of_ble_eq_true rfl⟩ (fun z7835 F9 H locs hT hz7835 => ?_)
        obtain ⟨fz7835, hz7835, xz7835_0⟩ := hz7835
        rw [fz7835] at hT
        refine lv_if_ne (tgt := 62) hx hb dX13_isName_32 (by decide) (fun c7836 => ?_) (fun c7836 => ?_)
        · have w7837 := cv_ne (rfl : z7835.toInt = z7835.toInt) (by decide : (0 : Int32).toInt = 0) c7836
          refine lv_iconst (v := 0) hx hb dX13_isName_62 (by decide) ?_
          have k7838 : (0 : Int32).toInt = 0 := by decide
          exact t_zret hQ X hT (by decide) (⟨rfl, (by decide)⟩) (Nat.le_of_ble_eq_true rfl) (Nat.le_of_ble_eq_true rfl) dX13_isName_63
        · have w7839 := cv_eq (rfl : z7835.toInt = z7835.toInt) (by decide : (0 : Int32).toInt = 0) c7836
          refine lv_aload_n hx hb dX13_isName_35 rfl (lv_at hl 0 rfl) ?_
          refine m_ldcK X 53 rfl dX13_isName_36 ?_
          refine t_cVi (n := 1) (C := RX13) (T := TX13) (N := 37) (As := [.ref (G.2 (100 + 53))]) (rest := []) X hT (km9_X13_isWord l G tag L F hT.2.2.2 p0 53 x0 m0 g0 (by decide) (by omega) pf0) m0 g0 rfl rfl qw_535 qw_536 qw_537 qw_5 qw_538 ⟨rfl, by decide +kernel, by decide +kernel, by decide +kernel⟩ ⟨Nat.le_of_ble_eq_true rfl, Nat.le_of_ble_eq_true rfl⟩ hl rfl rfl (Nat.le_of_ble_eq_true rfl) dX13_isName_38 ⟨Nat.le_of_ble_eq_true rfl, Nat.le_of_ble_eq_true rfl⟩ (fun z7840 F9 H locs hT hz7840 => ?_)
          obtain ⟨fz7840, hz7840, xz7840_0⟩ := hz7840
          rw [fz7840] at hT
          refine lv_if_ne (tgt := 62) hx hb dX13_isName_41 (by decide) (fun c7841 => ?_) (fun c7841 => ?_)
          · have w7842 := cv_ne (rfl : z7840.toInt = z7840.toInt) (by decide : (0 : Int32).toInt = 0) c7841
            refine lv_iconst (v := 0) hx hb dX13_isName_62 (by decide) ?_
            have k7843 : (0 : Int32).toInt = 0 := by decide
            exact t_zret hQ X hT (by decide) (⟨rfl, (by decide)⟩) (Nat.le_of_ble_eq_true rfl) (Nat.le_of_ble_eq_true rfl) dX13_isName_63
          · have w7844 := cv_eq (rfl : z7840.toInt = z7840.toInt) (by decide : (0 : Int32).toInt = 0) c7841
            refine lv_aload_n hx hb dX13_isName_44 rfl (lv_at hl 0 rfl) ?_
            refine m_ldcK X 54 rfl dX13_isName_45 ?_
            refine t_cVi (n := 1) (C := RX13) (T := TX13) (N := 37) (As := [.ref (G.2 (100 + 54))]) (rest := []) X hT (km9_X13_isWord l G tag L F hT.2.2.2 p0 54 x0 m0 g0 (by decide) (by omega) pf0) m0 g0 rfl rfl qw_535 qw_536 qw_537 qw_5 qw_538 ⟨rfl, by decide +kernel, by decide +kernel, by decide +kernel⟩ ⟨Nat.le_of_ble_eq_true rfl, Nat.le_of_ble_eq_true rfl⟩ hl rfl rfl (Nat.le_of_ble_eq_true rfl) dX13_isName_47 ⟨Nat.le_of_ble_eq_true rfl, Nat.le_of_ble_eq_true rfl⟩ (fun z7845 F9 H locs hT hz7845 => ?_)
            obtain ⟨fz7845, hz7845, xz7845_0⟩ := hz7845
            rw [fz7845] at hT
            refine lv_if_ne (tgt := 62) hx hb dX13_isName_50 (by decide) (fun c7846 => ?_) (fun c7846 => ?_)
            · have w7847 := cv_ne (rfl : z7845.toInt = z7845.toInt) (by decide : (0 : Int32).toInt = 0) c7846
              refine lv_iconst (v := 0) hx hb dX13_isName_62 (by decide) ?_
              have k7848 : (0 : Int32).toInt = 0 := by decide
              exact t_zret hQ X hT (by decide) (⟨rfl, (by decide)⟩) (Nat.le_of_ble_eq_true rfl) (Nat.le_of_ble_eq_true rfl) dX13_isName_63
            · have w7849 := cv_eq (rfl : z7845.toInt = z7845.toInt) (by decide : (0 : Int32).toInt = 0) c7846
              refine lv_aload_n hx hb dX13_isName_53 rfl (lv_at hl 0 rfl) ?_
              refine m_ldcK X 55 rfl dX13_isName_54 ?_
              refine t_cVi (n := 1) (C := RX13) (T := TX13) (N := 37) (As := [.ref (G.2 (100 + 55))]) (rest := []) X hT (km9_X13_isWord l G tag L F hT.2.2.2 p0 55 x0 m0 g0 (by decide) (by omega) pf0) m0 g0 rfl rfl qw_535 qw_536 qw_537 qw_5 qw_538 ⟨rfl, by decide +kernel, by decide +kernel, by decide +kernel⟩ ⟨Nat.le_of_ble_eq_true rfl, Nat.le_of_ble_eq_true rfl⟩ hl rfl rfl (Nat.le_of_ble_eq_true rfl) dX13_isName_56 ⟨Nat.le_of_ble_eq_true rfl, Nat.le_of_ble_eq_true rfl⟩ (fun z7850 F9 H locs hT hz7850 => ?_)
              obtain ⟨fz7850, hz7850, xz7850_0⟩ := hz7850
              rw [fz7850] at hT
              refine lv_if_eq (tgt := 64) hx hb dX13_isName_59 (by decide) (fun c7851 => ?_) (fun c7851 => ?_)
              · have w7852 := cv_eq (rfl : z7850.toInt = z7850.toInt) (by decide : (0 : Int32).toInt = 0) c7851
                refine lv_aload_n hx hb dX13_isName_64 rfl (lv_at hl 0 rfl) ?_
                refine m_ldcK X 56 rfl dX13_isName_65 ?_
                refine t_cVi (n := 1) (C := RX13) (T := TX13) (N := 37) (As := [.ref (G.2 (100 + 56))]) (rest := []) X hT (km9_X13_isWord l G tag L F hT.2.2.2 p0 56 x0 m0 g0 (by decide) (by omega) pf0) m0 g0 rfl rfl qw_535 qw_536 qw_537 qw_5 qw_538 ⟨rfl, by decide +kernel, by decide +kernel, by decide +kernel⟩ ⟨Nat.le_of_ble_eq_true rfl, Nat.le_of_ble_eq_true rfl⟩ hl rfl rfl (Nat.le_of_ble_eq_true rfl) dX13_isName_67 ⟨Nat.le_of_ble_eq_true rfl, Nat.le_of_ble_eq_true rfl⟩ (fun z7853 F9 H locs hT hz7853 => ?_)
                obtain ⟨fz7853, hz7853, xz7853_0⟩ := hz7853
                rw [fz7853] at hT
                refine lv_if_ne (tgt := 113) hx hb dX13_isName_70 (by decide) (fun c7854 => ?_) (fun c7854 => ?_)
                · have w7855 := cv_ne (rfl : z7853.toInt = z7853.toInt) (by decide : (0 : Int32).toInt = 0) c7854
                  refine lv_iconst (v := 0) hx hb dX13_isName_113 (by decide) ?_
                  have k7856 : (0 : Int32).toInt = 0 := by decide
                  exact t_zret hQ X hT (by decide) (⟨rfl, (by decide)⟩) (Nat.le_of_ble_eq_true rfl) (Nat.le_of_ble_eq_true rfl) dX13_isName_114
                · have w7857 := cv_eq (rfl : z7853.toInt = z7853.toInt) (by decide : (0 : Int32).toInt = 0) c7854
                  refine lv_aload_n hx hb dX13_isName_73 rfl (lv_at hl 0 rfl) ?_
                  refine m_ldcK X 57 rfl dX13_isName_74 ?_
                  refine t_cVi (n := 1) (C := RX13) (T := TX13) (N := 37) (As := [.ref (G.2 (100 + 57))]) (rest := []) X hT (km9_X13_isWord l G tag L F hT.2.2.2 p0 57 x0 m0 g0 (by decide) (by omega) pf0) m0 g0 rfl rfl qw_535 qw_536 qw_537 qw_5 qw_538 ⟨rfl, by decide +kernel, by decide +kernel, by decide +kernel⟩ ⟨Nat.le_of_ble_eq_true rfl, Nat.le_of_ble_eq_true rfl⟩ hl rfl rfl (Nat.le_of_ble_eq_true rfl) dX13_isName_76 ⟨Nat.le_of_ble_eq_true rfl, Nat.le_of_ble_eq_true rfl⟩ (fun z7858 F9 H locs hT hz7858 => ?_)
                  obtain ⟨fz7858, hz7858, xz7858_0⟩ := hz7858
                  rw [fz7858] at hT
                  refine lv_if_ne (tgt := 113) hx hb dX13_isName_79 (by decide) (fun c7859 => ?_) (fun c7859 => ?_)
                  · have w7860 := cv_ne (rfl : z7858.toInt = z7858.toInt) (by decide : (0 : Int32).toInt = 0) c7859
                    refine lv_iconst (v := 0) hx hb dX13_isName_113 (by decide) ?_
                    have k7861 : (0 : Int32).toInt = 0 := by decide
                    exact t_zret hQ X hT (by decide) (⟨rfl, (by decide)⟩) (Nat.le_of_ble_eq_true rfl) (Nat.le_of_ble_eq_true rfl) dX13_isName_114
                  · have w7862 := cv_eq (rfl : z7858.toInt = z7858.toInt) (by decide : (0 : Int32).toInt = 0) c7859
                    refine lv_aload_n hx hb dX13_isName_82 rfl (lv_at hl 0 rfl) ?_
                    refine m_ldcK X 58 rfl dX13_isName_83 ?_
                    refine t_cVi (n := 1) (C := RX13) (T := TX13) (N := 37) (As := [.ref (G.2 (100 + 58))]) (rest := []) X hT (km9_X13_isWord l G tag L F hT.2.2.2 p0 58 x0 m0 g0 (by decide) (by omega) pf0) m0 g0 rfl rfl qw_535 qw_536 qw_537 qw_5 qw_538 ⟨rfl, by decide +kernel, by decide +kernel, by decide +kernel⟩ ⟨Nat.le_of_ble_eq_true rfl, Nat.le_of_ble_eq_true rfl⟩ hl rfl rfl (Nat.le_of_ble_eq_true rfl) dX13_isName_85 ⟨Nat.le_of_ble_eq_true rfl, Nat.le_of_ble_eq_true rfl⟩ (fun z7863 F9 H locs hT hz7863 => ?_)
                    obtain ⟨fz7863, hz7863, xz7863_0⟩ := hz7863
                    rw [fz7863] at hT
                    refine lv_if_ne (tgt := 113) hx hb dX13_isName_88 (by decide) (fun c7864 => ?_) (fun c7864 => ?_)
                    · have w7865 := cv_ne (rfl : z7863.toInt = z7863.toInt) (by decide : (0 : Int32).toInt = 0) c7864
                      refine lv_iconst (v := 0) hx hb dX13_isName_113 (by decide) ?_
                      have k7866 : (0 : Int32).toInt = 0 := by decide
                      exact t_zret hQ X hT (by decide) (⟨rfl, (by decide)⟩) (Nat.le_of_ble_eq_true rfl) (Nat.le_of_ble_eq_true rfl) dX13_isName_114
                    · have w7867 := cv_eq (rfl : z7863.toInt = z7863.toInt) (by decide : (0 : Int32).toInt = 0) c7864
                      refine lv_aload_n hx hb dX13_isName_91 rfl (lv_at hl 0 rfl) ?_
                      refine m_ldcK X 59 rfl dX13_isName_92 ?_
                      refine t_cVi (n := 1) (C := RX13) (T := TX13) (N := 37) (As := [.ref (G.2 (100 + 59))]) (rest := []) X hT (km9_X13_isWord l G tag L F hT.2.2.2 p0 59 x0 m0 g0 (by decide) (by omega) pf0) m0 g0 rfl rfl qw_535 qw_536 qw_537 qw_5 qw_538 ⟨rfl, by decide +kernel, by decide +kernel, by decide +kernel⟩ ⟨Nat.le_of_ble_eq_true rfl, Nat.le_of_ble_eq_true rfl⟩ hl rfl rfl (Nat.le_of_ble_eq_true rfl) dX13_isName_94 ⟨Nat.le_of_ble_eq_true rfl, Nat.le_of_ble_eq_true rfl⟩ (fun z7868 F9 H locs hT hz7868 => ?_)
                      obtain ⟨fz7868, hz7868, xz7868_0⟩ := hz7868
                      rw [fz7868] at hT
                      refine lv_if_ne (tgt := 113) hx hb dX13_isName_97 (by decide) (fun c7869 => ?_) (fun c7869 => ?_)
                      · have w7870 := cv_ne (rfl : z7868.toInt = z7868.toInt) (by decide : (0 : Int32).toInt = 0) c7869
                        refine lv_iconst (v := 0) hx hb dX13_isName_113 (by decide) ?_
                        have k7871 : (0 : Int32).toInt = 0 := by decide
                        exact t_zret hQ X hT (by decide) (⟨rfl, (by decide)⟩) (Nat.le_of_ble_eq_true rfl) (Nat.le_of_ble_eq_true rfl) dX13_isName_114
                      · have w7872 := cv_eq (rfl : z7868.toInt = z7868.toInt) (by decide : (0 : Int32).toInt = 0) c7869
                        refine lv_aload_n hx hb dX13_isName_100 rfl (lv_at hl 0 rfl) ?_
                        refine m_ldcK X 60 rfl dX13_isName_101 ?_
                        refine t_cVi (n := 1) (C := RX13) (T := TX13) (N := 37) (As := [.ref (G.2 (100 + 60))]) (rest := []) X hT (km9_X13_isWord l G tag L F hT.2.2.2 p0 60 x0 m0 g0 (by decide) (by omega) pf0) m0 g0 rfl rfl qw_535 qw_536 qw_537 qw_5 qw_538 ⟨rfl, by decide +kernel, by decide +kernel, by decide +kernel⟩ ⟨Nat.le_of_ble_eq_true rfl, Nat.le_of_ble_eq_true rfl⟩ hl rfl rfl (Nat.le_of_ble_eq_true rfl) dX13_isName_103 ⟨Nat.le_of_ble_eq_true rfl, Nat.le_of_ble_eq_true rfl⟩ (fun z7873 F9 H locs hT hz7873 => ?_)
                        obtain ⟨fz7873, hz7873, xz7873_0⟩ := hz7873
                        rw [fz7873] at hT
                        refine lv_if_ne (tgt := 113) hx hb dX13_isName_106 (by decide) (fun c7874 => ?_) (fun c7874 => ?_)
                        · have w7875 := cv_ne (rfl : z7873.toInt = z7873.toInt) (by decide : (0 : Int32).toInt = 0) c7874
                          refine lv_iconst (v := 0) hx hb dX13_isName_113 (by decide) ?_
                          have k7876 : (0 : Int32).toInt = 0 := by decide
                          exact t_zret hQ X hT (by decide) (⟨rfl, (by decide)⟩) (Nat.le_of_ble_eq_true rfl) (Nat.le_of_ble_eq_true rfl) dX13_isName_114
                        · have w7877 := cv_eq (rfl : z7873.toInt = z7873.toInt) (by decide : (0 : Int32).toInt = 0) c7874
                          refine lv_iconst (v := 1) hx hb dX13_isName_109 (by decide) ?_
                          refine lv_goto (tgt := 114) hx hb dX13_isName_110 (by decide) ?_
                          have k7878 : (1 : Int32).toInt = 1 := by decide
                          exact t_zret hQ X hT (by decide) (⟨rfl, (by decide)⟩) (Nat.le_of_ble_eq_true rfl) (Nat.le_of_ble_eq_true rfl) dX13_isName_114
              · have w7879 := cv_ne (rfl : z7850.toInt = z7850.toInt) (by decide : (0 : Int32).toInt = 0) c7851
                refine lv_iconst (v := 0) hx hb dX13_isName_62 (by decide) ?_
                have k7880 : (0 : Int32).toInt = 0 := by decide
                exact t_zret hQ X hT (by decide) (⟨rfl, (by decide)⟩) (Nat.le_of_ble_eq_true rfl) (Nat.le_of_ble_eq_true rfl) dX13_isName_63
set_option maxHeartbeats 4000000 in
set_option maxRecDepth 100000 in
theorem km17_X12_find (l : Launch) (G : KG) (tag : Nat → Nat) (L : List Nat) (F : Nat → va_E) (ho : okT G ttC tag L F) (p0 : Nat) (p1 : Int64) (m0 : p0 ∈ L) (g0 : tag p0 = 44) : TMi l yX12_find cX12_find 4 (some .int) { frames := 0, cells := 0, slots := 0, locals := 0 } G ttC tag L F [.ref p0, .long p1] (fun r F1 => F1 = F ∧ ((-1) ≤ r.toInt ∧ r.toInt ≤ 31)) := by
  refine t_bodyi (y := yX12_find) (cd := cX12_find) (mL := 4) (rt := (some .int)) (rm := { frames := 0, cells := 0, slots := 0, locals := 0 }) (av := [.ref p0, .long p1]) (by decide) (Nat.le_of_ble_eq_true rfl) ho ?_
  intro p e s m args below meth c ls A Q hQ X hT hl
  have hx := X.1.1
  have hb := X.1.2.1
  have hl : lv_has ls 4 [(0, .ref p0), (1, .long p1)] := hl
  have K2 : ∀ (n : Nat) (z8251 : Int32) (H : Heap) (locs : List Loc) (ls : Array Slot), (32 - z8251.toInt < (n : Int)) → (0 ≤ z8251.toInt ∧ z8251.toInt ≤ 32) → TH G ttC A s tag L F H locs → lv_has ls 4 [(0, .ref p0), (1, .long p1), (3, .int z8251)] → W p l e { frames := 0, cells := 0, slots := 0, locals := 0 } s m args below meth c H locs 0 0 Q (F0 m 2 ls []) := by
    intro n
    induction n with
    | zero =>
      intro z8251 H locs ls hn rz8251 hT hl
      exfalso
      omega
    | succ n ih2 =>
      intro z8251 H locs ls hn rz8251 hT hl
      refine lv_iload_n hx hb dX12_find_2 rfl (lv_at hl 2 rfl) ?_
      refine lv_aload_n hx hb dX12_find_3 rfl (lv_at hl 0 rfl) ?_
      refine t_get (C := RX12) (T := TX12) (N := 31) X hT m0 g0 rfl rfl 12 (by decide) qw_607 inlX12 rfl dX12_find_4 (fun v8252 hv8252 ov8252 => ?_)
      obtain ⟨z8253, rfl, rz8253⟩ := okV_i ov8252
      refine lv_icmp_ge (tgt := 29) hx hb dX12_find_7 (by decide) (fun c8254 => ?_) (fun c8254 => ?_)
      · have w8255 := cv_le (rfl : z8253.toInt = z8253.toInt) (rfl : z8251.toInt = z8251.toInt) c8254
        refine lv_iconst (v := (-1)) hx hb dX12_find_29 (by decide) ?_
        have k8256 : ((-1) : Int32).toInt = (-1) := by decide
        exact t_iret hQ X hT (⟨rfl, (by decide)⟩) (Nat.le_of_ble_eq_true rfl) (Nat.le_of_ble_eq_true rfl) dX12_find_30
      · have w8257 := cv_nle (rfl : z8253.toInt = z8253.toInt) (rfl : z8251.toInt = z8251.toInt) c8254
        refine lv_aload_n hx hb dX12_find_10 rfl (lv_at hl 0 rfl) ?_
        refine t_get (C := RX12) (T := TX12) (N := 31) X hT m0 g0 rfl rfl 27 (by decide) qw_504 inlX12 rfl dX12_find_11 (fun v8258 hv8258 ov8258 => ?_)
        obtain ⟨b8259, rfl, mb8259, gb8259⟩ := okV_r ov8258
        have gb8259 : tag b8259 = 34 := tg_of gb8259
        refine lv_iload_n hx hb dX12_find_14 rfl (lv_at hl 2 rfl) ?_
        refine t_lld X hT mb8259 gb8259 rfl (by omega) dX12_find_15 (fun z8260 => ?_)
        refine lv_lload_n hx hb dX12_find_16 rfl (lv_at hl 1 rfl) ?_
        refine m_lcmp X dX12_find_17 (fun z8261 rz8261 => ?_)
        refine lv_if_ne (tgt := 23) hx hb dX12_find_18 (by decide) (fun c8262 => ?_) (fun c8262 => ?_)
        · have w8263 := cv_ne (rfl : z8261.toInt = z8261.toInt) (by decide : (0 : Int32).toInt = 0) c8262
          obtain ⟨z8264, ez8264⟩ : ∃ y : Int32, y = z8251 + 1 := ⟨_, rfl⟩
          have hz8264 : z8264.toInt = z8251.toInt + 1 := ar_add ez8264 rfl (by decide : (1 : Int32).toInt = 1) (by omega) (by omega)
          refine lv_iinc (v := z8264) (lv' := [(3, .int z8264), (0, .ref p0), (1, .long p1)]) hx hb dX12_find_23 hl (k := 2) rfl (by rw [ez8264]; rfl) (by decide) rfl (fun ls hl => ?_)
          refine lv_goto (tgt := 2) hx hb dX12_find_26 (by decide) ?_
          exact ih2 z8264 _ _ _ (by omega) (by omega) hT  (lv_sub hl [1, 2, 0] rfl)
        · have w8265 := cv_eq (rfl : z8261.toInt = z8261.toInt) (by decide : (0 : Int32).toInt = 0) c8262
          refine lv_iload_n hx hb dX12_find_21 rfl (lv_at hl 2 rfl) ?_
          exact t_iret hQ X hT (⟨rfl, (by omega)⟩) (Nat.le_of_ble_eq_true rfl) (Nat.le_of_ble_eq_true rfl) dX12_find_22
  refine lv_iconst (v := 0) hx hb dX12_find_0 (by decide) ?_
  refine lv_istore_n (lv' := [(3, .int 0), (0, .ref p0), (1, .long p1)]) hx hb dX12_find_1 rfl hl (by decide) rfl (fun ls hl => ?_)
  have k8266 : (0 : Int32).toInt = 0 := by decide
  exact K2 33 0 _ _ _ (by omega) (by decide) hT  (lv_sub hl [1, 2, 0] rfl)
set_option maxHeartbeats 4000000 in
set_option maxRecDepth 100000 in
theorem km18_X13_known (l : Launch) (G : KG) (tag : Nat → Nat) (L : List Nat) (Fo : Nat → va_E) (ho : okT G ttC tag L Fo) (p0 : Nat) (p1 : Int32) (x0 : Nat) (x1 : Nat) (x2 : Nat) (x3 : Int32) (x4 : Int32) (x5 : Int32) (m0 : p0 ∈ L) (g0 : tag p0 = 46) (h1 : 3 ≤ p1.toInt ∧ p1.toInt ≤ 3) (mx0 : x0 ∈ L) (gx0 : tag x0 = 44) (pf0 : fld Fo p0 4 = .ref x0) (mx1 : x1 ∈ L) (gx1 : tag x1 = 35) (pf1 : fld Fo x0 28 = .ref x1) (mx2 : x2 ∈ L) (gx2 : tag x2 = 36) (pf2 : fld Fo x0 29 = .ref x2) (hx3 : 0 ≤ x3.toInt ∧ x3.toInt ≤ 5) (pf3 : fld Fo p0 9 = .int x3) (hx4 : 0 ≤ x4.toInt ∧ x4.toInt ≤ 1000) (pf4 : fld Fo p0 8 = .int x4) (hx5 : 0 ≤ x5.toInt ∧ x5.toInt ≤ 7) (pf5 : fld Fo p0 13 = .int x5) (hrel : MSR Fo x1 x2) (hkf : KF x3 x5) : TMi l yX13_known cX13_known 3 (some .int) { frames := 7, cells := 0, slots := 0, locals := 149 } G ttC tag L Fo [.ref p0, .int p1] (fun r F1 => (0 ≤ r.toInt ∧ r.toInt ≤ 5) ∧ ((∀ b j : Nat, (tag b ≠ 46 ∨ j ≠ 9) → (tag b ≠ 46 ∨ j ≠ 13) → (tag b ≠ 46 ∨ j ≠ 14) → fld F1 b j = fld Fo b j) ∧ (∀ b j : Nat, elm F1 b j = elm Fo b j)) ∧ (MSR F1 x1 x2) ∧ (∃ so sp fa : Int32, fld F1 p0 9 = .int so ∧ fld F1 p0 8 = .int sp ∧ fld F1 p0 13 = .int fa ∧ (0 ≤ so.toInt ∧ so.toInt ≤ 5) ∧ (0 ≤ sp.toInt ∧ sp.toInt ≤ 1000) ∧ (0 ≤ fa.toInt ∧ fa.toInt ≤ 7) ∧ STK x3 so ∧ SPT x3 x4 so sp ∧ KF so fa)) := by
  refine t_bodyi (y := yX13_known) (cd := cX13_known) (mL := 3) (rt := (some .int)) (rm := { frames := 7, cells := 0, slots := 0, locals := 149 }) (av := [.ref p0, .int p1]) (by decide) (Nat.le_of_ble_eq_true rfl) ho ?_
  intro p e s m args below meth c ls A Q hQ X hT hl
  have hx := X.1.1
  have hb := X.1.2.1
  have hl : lv_has ls 3 [(0, .ref p0), (1, .int p1)] := hl
  obtain ⟨F, hFo⟩ : ∃ F : Nat → va_E, F = Fo := ⟨_, rfl⟩
  rw [← hFo] at hT pf0 pf1 pf2 pf3 pf4 pf5 hrel
  have hfr : (∀ b j : Nat, (tag b ≠ 46 ∨ j ≠ 9) → (tag b ≠ 46 ∨ j ≠ 13) → (tag b ≠ 46 ∨ j ≠ 14) → fld F b j = fld Fo b j) ∧ (∀ b j : Nat, elm F b j = elm Fo b j) := by
    rw [hFo]
    exact ⟨by intros; rfl, by intros; rfl⟩
  have hstk : STK x3 x3 := STK.rf
  have hspt : SPT x3 x4 x3 x4 := SPT.rf
  refine lv_aload_n hx hb dX13_known_0 rfl (lv_at hl 0 rfl) ?_
  refine t_cVi (n := 0) (C := RX13) (T := TX13) (N := 37) (As := []) (rest := []) X hT (km16_X13_isName l G tag L F hT.2.2.2 p0 x3 m0 g0 (by omega) pf3) m0 g0 rfl rfl qw_599 qw_600 qw_601 qw_5 qw_602 ⟨rfl, by decide +kernel, by decide +kernel, by decide +kernel⟩ ⟨Nat.le_of_ble_eq_true rfl, Nat.le_of_ble_eq_true rfl⟩ hl rfl rfl (Nat.le_of_ble_eq_true rfl) dX13_known_1 ⟨Nat.le_of_ble_eq_true rfl, Nat.le_of_ble_eq_true rfl⟩ (fun z8943 F9 H locs hT hz8943 => ?_)
  obtain ⟨fz8943, hz8943⟩ := hz8943
  rw [fz8943] at hT
  refine lv_if_ne (tgt := 12) hx hb dX13_known_4 (by decide) (fun c8944 => ?_) (fun c8944 => ?_)
  · have w8945 := cv_ne (rfl : z8943.toInt = z8943.toInt) (by decide : (0 : Int32).toInt = 0) c8944
    refine lv_aload_n hx hb dX13_known_12 rfl (lv_at hl 0 rfl) ?_
    refine t_get (C := RX13) (T := TX13) (N := 37) X hT m0 g0 rfl rfl 4 (by decide) qw_477 inlX13 rfl dX13_known_13 (fun v8946 hv8946 ov8946 => ?_)
    obtain rfl : v8946 = .ref x0 := hv8946.symm.trans pf0
    refine lv_aload_n hx hb dX13_known_16 rfl (lv_at hl 0 rfl) ?_
    refine t_get (C := RX13) (T := TX13) (N := 37) X hT m0 g0 rfl rfl 15 (by decide) qw_514 inlX13 rfl dX13_known_17 (fun v8947 hv8947 ov8947 => ?_)
    obtain ⟨z8948, rfl⟩ := ov8947
    refine t_cVi (n := 1) (C := RX12) (T := TX12) (N := 31) (As := [.long z8948]) (rest := []) X hT (km17_X12_find l G tag L F hT.2.2.2 x0 z8948 mx0 gx0) mx0 gx0 rfl rfl qw_603 qw_604 qw_605 qw_476 qw_606 ⟨rfl, by decide +kernel, by decide +kernel, by decide +kernel⟩ ⟨Nat.le_of_ble_eq_true rfl, Nat.le_of_ble_eq_true rfl⟩ hl rfl rfl (Nat.le_of_ble_eq_true rfl) dX13_known_20 ⟨Nat.le_of_ble_eq_true rfl, Nat.le_of_ble_eq_true rfl⟩ (fun z8949 F9 H locs hT hz8949 => ?_)
    obtain ⟨fz8949, hz8949⟩ := hz8949
    rw [fz8949] at hT
    refine lv_istore_n (lv' := [(2, .int z8949), (0, .ref p0), (1, .int p1)]) hx hb dX13_known_23 rfl hl (by decide) rfl (fun ls hl => ?_)
    refine lv_iload_n hx hb dX13_known_24 rfl (lv_at hl 0 rfl) ?_
    refine lv_iconst (v := (-1)) hx hb dX13_known_25 (by decide) ?_
    refine lv_icmp_eq (tgt := 42) hx hb dX13_known_26 (by decide) (fun c8950 => ?_) (fun c8950 => ?_)
    · have w8951 := cv_eq (rfl : z8949.toInt = z8949.toInt) (by decide : ((-1) : Int32).toInt = (-1)) c8950
      refine lv_aload_n hx hb dX13_known_42 rfl (lv_at hl 1 rfl) ?_
      refine lv_iconst (v := 2) hx hb dX13_known_43 (by decide) ?_
      refine t_cVv (n := 1) (C := RX13) (T := TX13) (N := 37) (As := [.int 2]) (rest := []) X hT (km10_X13_flaw l G tag L F hT.2.2.2 p0 2 x0 x1 x2 x3 x4 x5 m0 g0 (by decide) mx0 gx0 pf0 mx1 gx1 pf1 mx2 gx2 pf2 (by omega) pf3 (by omega) pf4 (by omega) pf5 hkf) m0 g0 rfl rfl qw_548 qw_549 qw_550 qw_5 qw_551 ⟨rfl, by decide +kernel, by decide +kernel, by decide +kernel⟩ ⟨Nat.le_of_ble_eq_true rfl, Nat.le_of_ble_eq_true rfl⟩ hl rfl rfl (Nat.le_of_ble_eq_true rfl) dX13_known_44 ⟨Nat.le_of_ble_eq_true rfl, Nat.le_of_ble_eq_true rfl⟩ (fun F H locs hT hz8952 => ?_)
      obtain ⟨yz8952, ⟨soz8952, spz8952, faz8952, qsoz8952, qspz8952, qfaz8952, rsoz8952, rspz8952, rfaz8952, stz8952, ptz8952, hkf, pxz8952_0⟩⟩ := hz8952
      have pf0 := (yz8952.1 _ 4 (Or.inr (by decide)) (Or.inr (by decide)) (Or.inr (by decide))).trans pf0
      have pf1 := (yz8952.1 _ 28 (Or.inr (by decide)) (Or.inr (by decide)) (Or.inr (by decide))).trans pf1
      have pf2 := (yz8952.1 _ 29 (Or.inr (by decide)) (Or.inr (by decide)) (Or.inr (by decide))).trans pf2
      have pf4 := (yz8952.1 _ 8 (Or.inr (by decide)) (Or.inr (by decide)) (Or.inr (by decide))).trans pf4
      have hfr : (∀ b j : Nat, (tag b ≠ 46 ∨ j ≠ 9) → (tag b ≠ 46 ∨ j ≠ 13) → (tag b ≠ 46 ∨ j ≠ 14) → fld F b j = fld Fo b j) ∧ (∀ b j : Nat, elm F b j = elm Fo b j) := ⟨fun b j n46_9 n46_13 n46_14 => (yz8952.1 b j n46_9 n46_13 n46_14).trans (hfr.1 b j n46_9 n46_13 n46_14), fun b j  => (yz8952.2 b j ).trans (hfr.2 b j )⟩
      have hrel := msr_of (fun j => yz8952.2 _ j ) (fun j => yz8952.2 _ j ) hrel
      have hstk := STK.tr hstk stz8952
      have hspt := SPT.tr hspt ptz8952
      refine lv_aload_n hx hb dX13_known_47 rfl (lv_at hl 1 rfl) ?_
      refine t_get (C := RX13) (T := TX13) (N := 37) X hT m0 g0 rfl rfl 9 (by decide) qw_478 inlX13 rfl dX13_known_48 (fun v8953 hv8953 ov8953 => ?_)
      obtain rfl : v8953 = .int soz8952 := hv8953.symm.trans qsoz8952
      refine lv_iconst (v := 5) hx hb dX13_known_51 (by decide) ?_
      refine lv_icmp_ne (tgt := 59) hx hb dX13_known_52 (by decide) (fun c8954 => ?_) (fun c8954 => ?_)
      · have w8955 := cv_ne (rfl : soz8952.toInt = soz8952.toInt) (by decide : (5 : Int32).toInt = 5) c8954
        exfalso
        omega
      · have w8956 := cv_eq (rfl : soz8952.toInt = soz8952.toInt) (by decide : (5 : Int32).toInt = 5) c8954
        refine lv_iconst (v := 0) hx hb dX13_known_55 (by decide) ?_
        refine lv_goto (tgt := 68) hx hb dX13_known_56 (by decide) ?_
        have k8957 : (0 : Int32).toInt = 0 := by decide
        exact t_iret hQ X hT (⟨(by decide), hfr, hrel, ⟨soz8952, spz8952, faz8952, qsoz8952, qspz8952, qfaz8952, (by omega), (by omega), (by omega), hstk, hspt, hkf⟩⟩) (Nat.le_of_ble_eq_true rfl) (Nat.le_of_ble_eq_true rfl) dX13_known_68
    · have w8958 := cv_ne (rfl : z8949.toInt = z8949.toInt) (by decide : ((-1) : Int32).toInt = (-1)) c8950
      refine lv_aload_n hx hb dX13_known_29 rfl (lv_at hl 1 rfl) ?_
      refine t_get (C := RX13) (T := TX13) (N := 37) X hT m0 g0 rfl rfl 4 (by decide) qw_477 inlX13 rfl dX13_known_30 (fun v8959 hv8959 ov8959 => ?_)
      obtain rfl : v8959 = .ref x0 := hv8959.symm.trans pf0
      refine t_getN (C := RX12) (T := TX12) (N := 31) X hT mx0 gx0 rfl rfl 28 (by decide) (List.mem_of_getElem? (i := 32) rfl) inlX12 rfl dX13_known_33 (fun v8960 hv8960 ov8960 => ?_)
      obtain rfl : v8960 = .ref x1 := hv8960.symm.trans pf1
      refine lv_iload_n hx hb dX13_known_36 rfl (lv_at hl 0 rfl) ?_
      refine t_ild X hT mx1 gx1 rfl (by omega) dX13_known_37 (fun z8961 vz8961 rz8961 => ?_)
      have rz8961 : (-2147483648) ≤ z8961.toInt ∧ z8961.toInt ≤ 2147483647 := rz8961
      refine lv_iload_n hx hb dX13_known_38 rfl (lv_at hl 2 rfl) ?_
      refine lv_icmp_eq (tgt := 47) hx hb dX13_known_39 (by decide) (fun c8962 => ?_) (fun c8962 => ?_)
      · have w8963 := cv_eq (rfl : z8961.toInt = z8961.toInt) (rfl : p1.toInt = p1.toInt) c8962
        refine lv_aload_n hx hb dX13_known_47 rfl (lv_at hl 1 rfl) ?_
        refine t_get (C := RX13) (T := TX13) (N := 37) X hT m0 g0 rfl rfl 9 (by decide) qw_478 inlX13 rfl dX13_known_48 (fun v8964 hv8964 ov8964 => ?_)
        obtain rfl : v8964 = .int x3 := hv8964.symm.trans pf3
        refine lv_iconst (v := 5) hx hb dX13_known_51 (by decide) ?_
        refine lv_icmp_ne (tgt := 59) hx hb dX13_known_52 (by decide) (fun c8965 => ?_) (fun c8965 => ?_)
        · have w8966 := cv_ne (rfl : x3.toInt = x3.toInt) (by decide : (5 : Int32).toInt = 5) c8965
          refine lv_aload_n hx hb dX13_known_59 rfl (lv_at hl 1 rfl) ?_
          refine t_get (C := RX13) (T := TX13) (N := 37) X hT m0 g0 rfl rfl 4 (by decide) qw_477 inlX13 rfl dX13_known_60 (fun v8967 hv8967 ov8967 => ?_)
          obtain rfl : v8967 = .ref x0 := hv8967.symm.trans pf0
          refine t_getN (C := RX12) (T := TX12) (N := 31) X hT mx0 gx0 rfl rfl 29 (by decide) (List.mem_of_getElem? (i := 33) rfl) inlX12 rfl dX13_known_63 (fun v8968 hv8968 ov8968 => ?_)
          obtain rfl : v8968 = .ref x2 := hv8968.symm.trans pf2
          refine lv_iload_n hx hb dX13_known_66 rfl (lv_at hl 0 rfl) ?_
          refine t_ild X hT mx2 gx2 rfl (by omega) dX13_known_67 (fun z8969 vz8969 rz8969 => ?_)
          have rz8969 : (-2147483648) ≤ z8969.toInt ∧ z8969.toInt ≤ 2147483647 := rz8969
          have rz8969 := msr_3 hrel vz8961 vz8969 (by omega)
          exact t_iret hQ X hT (⟨(by omega), hfr, hrel, ⟨x3, x4, x5, pf3, pf4, pf5, (by omega), (by omega), (by omega), hstk, hspt, hkf⟩⟩) (Nat.le_of_ble_eq_true rfl) (Nat.le_of_ble_eq_true rfl) dX13_known_68
        · have w8970 := cv_eq (rfl : x3.toInt = x3.toInt) (by decide : (5 : Int32).toInt = 5) c8965
          refine lv_iconst (v := 0) hx hb dX13_known_55 (by decide) ?_
          refine lv_goto (tgt := 68) hx hb dX13_known_56 (by decide) ?_
          have k8971 : (0 : Int32).toInt = 0 := by decide
          exact t_iret hQ X hT (⟨(by decide), hfr, hrel, ⟨x3, x4, x5, pf3, pf4, pf5, (by omega), (by omega), (by omega), hstk, hspt, hkf⟩⟩) (Nat.le_of_ble_eq_true rfl) (Nat.le_of_ble_eq_true rfl) dX13_known_68
      · have w8972 := cv_ne (rfl : z8961.toInt = z8961.toInt) (rfl : p1.toInt = p1.toInt) c8962
        refine lv_aload_n hx hb dX13_known_42 rfl (lv_at hl 1 rfl) ?_
        refine lv_iconst (v := 2) hx hb dX13_known_43 (by decide) ?_
        refine t_cVv (n := 1) (C := RX13) (T := TX13) (N := 37) (As := [.int 2]) (rest := []) X hT (km10_X13_flaw l G tag L F hT.2.2.2 p0 2 x0 x1 x2 x3 x4 x5 m0 g0 (by decide) mx0 gx0 pf0 mx1 gx1 pf1 mx2 gx2 pf2 (by omega) pf3 (by omega) pf4 (by omega) pf5 hkf) m0 g0 rfl rfl qw_548 qw_549 qw_550 qw_5 qw_551 ⟨rfl, by decide +kernel, by decide +kernel, by decide +kernel⟩ ⟨Nat.le_of_ble_eq_true rfl, Nat.le_of_ble_eq_true rfl⟩ hl rfl rfl (Nat.le_of_ble_eq_true rfl) dX13_known_44 ⟨Nat.le_of_ble_eq_true rfl, Nat.le_of_ble_eq_true rfl⟩ (fun F H locs hT hz8973 => ?_)
        obtain ⟨yz8973, ⟨soz8973, spz8973, faz8973, qsoz8973, qspz8973, qfaz8973, rsoz8973, rspz8973, rfaz8973, stz8973, ptz8973, hkf, pxz8973_0⟩⟩ := hz8973
        have pf0 := (yz8973.1 _ 4 (Or.inr (by decide)) (Or.inr (by decide)) (Or.inr (by decide))).trans pf0
        have pf1 := (yz8973.1 _ 28 (Or.inr (by decide)) (Or.inr (by decide)) (Or.inr (by decide))).trans pf1
        have pf2 := (yz8973.1 _ 29 (Or.inr (by decide)) (Or.inr (by decide)) (Or.inr (by decide))).trans pf2
        have pf4 := (yz8973.1 _ 8 (Or.inr (by decide)) (Or.inr (by decide)) (Or.inr (by decide))).trans pf4
        have vz8961 := (yz8973.2 _ _ ).trans vz8961
        have hfr : (∀ b j : Nat, (tag b ≠ 46 ∨ j ≠ 9) → (tag b ≠ 46 ∨ j ≠ 13) → (tag b ≠ 46 ∨ j ≠ 14) → fld F b j = fld Fo b j) ∧ (∀ b j : Nat, elm F b j = elm Fo b j) := ⟨fun b j n46_9 n46_13 n46_14 => (yz8973.1 b j n46_9 n46_13 n46_14).trans (hfr.1 b j n46_9 n46_13 n46_14), fun b j  => (yz8973.2 b j ).trans (hfr.2 b j )⟩
        have hrel := msr_of (fun j => yz8973.2 _ j ) (fun j => yz8973.2 _ j ) hrel
        have hstk := STK.tr hstk stz8973
        have hspt := SPT.tr hspt ptz8973
        refine lv_aload_n hx hb dX13_known_47 rfl (lv_at hl 1 rfl) ?_
        refine t_get (C := RX13) (T := TX13) (N := 37) X hT m0 g0 rfl rfl 9 (by decide) qw_478 inlX13 rfl dX13_known_48 (fun v8974 hv8974 ov8974 => ?_)
        obtain rfl : v8974 = .int soz8973 := hv8974.symm.trans qsoz8973
        refine lv_iconst (v := 5) hx hb dX13_known_51 (by decide) ?_
        refine lv_icmp_ne (tgt := 59) hx hb dX13_known_52 (by decide) (fun c8975 => ?_) (fun c8975 => ?_)
        · have w8976 := cv_ne (rfl : soz8973.toInt = soz8973.toInt) (by decide : (5 : Int32).toInt = 5) c8975
          exfalso
          omega
        · have w8977 := cv_eq (rfl : soz8973.toInt = soz8973.toInt) (by decide : (5 : Int32).toInt = 5) c8975
          refine lv_iconst (v := 0) hx hb dX13_known_55 (by decide) ?_
          refine lv_goto (tgt := 68) hx hb dX13_known_56 (by decide) ?_
          have k8978 : (0 : Int32).toInt = 0 := by decide
          exact t_iret hQ X hT (⟨(by decide), hfr, hrel, ⟨soz8973, spz8973, faz8973, qsoz8973, qspz8973, qfaz8973, (by omega), (by omega), (by omega), hstk, hspt, hkf⟩⟩) (Nat.le_of_ble_eq_true rfl) (Nat.le_of_ble_eq_true rfl) dX13_known_68
  · have w8979 := cv_eq (rfl : z8943.toInt = z8943.toInt) (by decide : (0 : Int32).toInt = 0) c8944
    refine lv_aload_n hx hb dX13_known_7 rfl (lv_at hl 0 rfl) ?_
    refine lv_iconst (v := 1) hx hb dX13_known_8 (by decide) ?_
    refine t_cVv (n := 1) (C := RX13) (T := TX13) (N := 37) (As := [.int 1]) (rest := []) X hT (km10_X13_flaw l G tag L F hT.2.2.2 p0 1 x0 x1 x2 x3 x4 x5 m0 g0 (by decide) mx0 gx0 pf0 mx1 gx1 pf1 mx2 gx2 pf2 (by omega) pf3 (by omega) pf4 (by omega) pf5 hkf) m0 g0 rfl rfl qw_548 qw_549 qw_550 qw_5 qw_551 ⟨rfl, by decide +kernel, by decide +kernel, by decide +kernel⟩ ⟨Nat.le_of_ble_eq_true rfl, Nat.le_of_ble_eq_true rfl⟩ hl rfl rfl (Nat.le_of_ble_eq_true rfl) dX13_known_9 ⟨Nat.le_of_ble_eq_true rfl, Nat.le_of_ble_eq_true rfl⟩ (fun F H locs hT hz8980 => ?_)
    obtain ⟨yz8980, ⟨soz8980, spz8980, faz8980, qsoz8980, qspz8980, qfaz8980, rsoz8980, rspz8980, rfaz8980, stz8980, ptz8980, hkf, pxz8980_0⟩⟩ := hz8980
    have pf0 := (yz8980.1 _ 4 (Or.inr (by decide)) (Or.inr (by decide)) (Or.inr (by decide))).trans pf0
    have pf1 := (yz8980.1 _ 28 (Or.inr (by decide)) (Or.inr (by decide)) (Or.inr (by decide))).trans pf1
    have pf2 := (yz8980.1 _ 29 (Or.inr (by decide)) (Or.inr (by decide)) (Or.inr (by decide))).trans pf2
    have pf4 := (yz8980.1 _ 8 (Or.inr (by decide)) (Or.inr (by decide)) (Or.inr (by decide))).trans pf4
    have hfr : (∀ b j : Nat, (tag b ≠ 46 ∨ j ≠ 9) → (tag b ≠ 46 ∨ j ≠ 13) → (tag b ≠ 46 ∨ j ≠ 14) → fld F b j = fld Fo b j) ∧ (∀ b j : Nat, elm F b j = elm Fo b j) := ⟨fun b j n46_9 n46_13 n46_14 => (yz8980.1 b j n46_9 n46_13 n46_14).trans (hfr.1 b j n46_9 n46_13 n46_14), fun b j  => (yz8980.2 b j ).trans (hfr.2 b j )⟩
    have hrel := msr_of (fun j => yz8980.2 _ j ) (fun j => yz8980.2 _ j ) hrel
    have hstk := STK.tr hstk stz8980
    have hspt := SPT.tr hspt ptz8980
    refine lv_aload_n hx hb dX13_known_12 rfl (lv_at hl 0 rfl) ?_
    refine t_get (C := RX13) (T := TX13) (N := 37) X hT m0 g0 rfl rfl 4 (by decide) qw_477 inlX13 rfl dX13_known_13 (fun v8981 hv8981 ov8981 => ?_)
    obtain rfl : v8981 = .ref x0 := hv8981.symm.trans pf0
    refine lv_aload_n hx hb dX13_known_16 rfl (lv_at hl 0 rfl) ?_
    refine t_get (C := RX13) (T := TX13) (N := 37) X hT m0 g0 rfl rfl 15 (by decide) qw_514 inlX13 rfl dX13_known_17 (fun v8982 hv8982 ov8982 => ?_)
    obtain ⟨z8983, rfl⟩ := ov8982
    refine t_cVi (n := 1) (C := RX12) (T := TX12) (N := 31) (As := [.long z8983]) (rest := []) X hT (km17_X12_find l G tag L F hT.2.2.2 x0 z8983 mx0 gx0) mx0 gx0 rfl rfl qw_603 qw_604 qw_605 qw_476 qw_606 ⟨rfl, by decide +kernel, by decide +kernel, by decide +kernel⟩ ⟨Nat.le_of_ble_eq_true rfl, Nat.le_of_ble_eq_true rfl⟩ hl rfl rfl (Nat.le_of_ble_eq_true rfl) dX13_known_20 ⟨Nat.le_of_ble_eq_true rfl, Nat.le_of_ble_eq_true rfl⟩ (fun z8984 F9 H locs hT hz8984 => ?_)
    obtain ⟨fz8984, hz8984⟩ := hz8984
    rw [fz8984] at hT
    refine lv_istore_n (lv' := [(2, .int z8984), (0, .ref p0), (1, .int p1)]) hx hb dX13_known_23 rfl hl (by decide) rfl (fun ls hl => ?_)
    refine lv_iload_n hx hb dX13_known_24 rfl (lv_at hl 0 rfl) ?_
    refine lv_iconst (v := (-1)) hx hb dX13_known_25 (by decide) ?_
    refine lv_icmp_eq (tgt := 42) hx hb dX13_known_26 (by decide) (fun c8985 => ?_) (fun c8985 => ?_)
    · have w8986 := cv_eq (rfl : z8984.toInt = z8984.toInt) (by decide : ((-1) : Int32).toInt = (-1)) c8985
      refine lv_aload_n hx hb dX13_known_42 rfl (lv_at hl 1 rfl) ?_
      refine lv_iconst (v := 2) hx hb dX13_known_43 (by decide) ?_
      refine t_cVv (n := 1) (C := RX13) (T := TX13) (N := 37) (As := [.int 2]) (rest := []) X hT (km10_X13_flaw l G tag L F hT.2.2.2 p0 2 x0 x1 x2 soz8980 spz8980 faz8980 m0 g0 (by decide) mx0 gx0 pf0 mx1 gx1 pf1 mx2 gx2 pf2 (by omega) qsoz8980 (by omega) qspz8980 (by omega) qfaz8980 hkf) m0 g0 rfl rfl qw_548 qw_549 qw_550 qw_5 qw_551 ⟨rfl, by decide +kernel, by decide +kernel, by decide +kernel⟩ ⟨Nat.le_of_ble_eq_true rfl, Nat.le_of_ble_eq_true rfl⟩ hl rfl rfl (Nat.le_of_ble_eq_true rfl) dX13_known_44 ⟨Nat.le_of_ble_eq_true rfl, Nat.le_of_ble_eq_true rfl⟩ (fun F H locs hT hz8987 => ?_)
      obtain ⟨yz8987, ⟨soz8987, spz8987, faz8987, qsoz8987, qspz8987, qfaz8987, rsoz8987, rspz8987, rfaz8987, stz8987, ptz8987, hkf, pxz8987_0⟩⟩ := hz8987
      have pf0 := (yz8987.1 _ 4 (Or.inr (by decide)) (Or.inr (by decide)) (Or.inr (by decide))).trans pf0
      have pf1 := (yz8987.1 _ 28 (Or.inr (by decide)) (Or.inr (by decide)) (Or.inr (by decide))).trans pf1
      have pf2 := (yz8987.1 _ 29 (Or.inr (by decide)) (Or.inr (by decide)) (Or.inr (by decide))).trans pf2
      have qspz8980 := (yz8987.1 _ 8 (Or.inr (by decide)) (Or.inr (by decide)) (Or.inr (by decide))).trans qspz8980
      have hfr : (∀ b j : Nat, (tag b ≠ 46 ∨ j ≠ 9) → (tag b ≠ 46 ∨ j ≠ 13) → (tag b ≠ 46 ∨ j ≠ 14) → fld F b j = fld Fo b j) ∧ (∀ b j : Nat, elm F b j = elm Fo b j) := ⟨fun b j n46_9 n46_13 n46_14 => (yz8987.1 b j n46_9 n46_13 n46_14).trans (hfr.1 b j n46_9 n46_13 n46_14), fun b j  => (yz8987.2 b j ).trans (hfr.2 b j )⟩
      have hrel := msr_of (fun j => yz8987.2 _ j ) (fun j => yz8987.2 _ j ) hrel
      have hstk := STK.tr hstk stz8987
      have hspt := SPT.tr hspt ptz8987
      have k5z8987 : soz8987.toInt = 5 := stz8987 (by omega)
      refine lv_aload_n hx hb dX13_known_47 rfl (lv_at hl 1 rfl) ?_
      refine t_get (C := RX13) (T := TX13) (N := 37) X hT m0 g0 rfl rfl 9 (by decide) qw_478 inlX13 rfl dX13_known_48 (fun v8988 hv8988 ov8988 => ?_)
      obtain rfl : v8988 = .int soz8987 := hv8988.symm.trans qsoz8987
      refine lv_iconst (v := 5) hx hb dX13_known_51 (by decide) ?_
      refine lv_icmp_ne (tgt := 59) hx hb dX13_known_52 (by decide) (fun c8989 => ?_) (fun c8989 => ?_)
      · have w8990 := cv_ne (rfl : soz8987.toInt = soz8987.toInt) (by decide : (5 : Int32).toInt = 5) c8989
        exfalso
        omega
      · have w8991 := cv_eq (rfl : soz8987.toInt = soz8987.toInt) (by decide : (5 : Int32).toInt = 5) c8989
        refine lv_iconst (v := 0) hx hb dX13_known_55 (by decide) ?_
        refine lv_goto (tgt := 68) hx hb dX13_known_56 (by decide) ?_
        have k8992 : (0 : Int32).toInt = 0 := by decide
        exact t_iret hQ X hT (⟨(by decide), hfr, hrel, ⟨soz8987, spz8987, faz8987, qsoz8987, qspz8987, qfaz8987, (by omega), (by omega), (by omega), hstk, hspt, hkf⟩⟩) (Nat.le_of_ble_eq_true rfl) (Nat.le_of_ble_eq_true rfl) dX13_known_68
    · have w8993 := cv_ne (rfl : z8984.toInt = z8984.toInt) (by decide : ((-1) : Int32).toInt = (-1)) c8985
      refine lv_aload_n hx hb dX13_known_29 rfl (lv_at hl 1 rfl) ?_
      refine t_get (C := RX13) (T := TX13) (N := 37) X hT m0 g0 rfl rfl 4 (by decide) qw_477 inlX13 rfl dX13_known_30 (fun v8994 hv8994 ov8994 => ?_)
      obtain rfl : v8994 = .ref x0 := hv8994.symm.trans pf0
      refine t_getN (C := RX12) (T := TX12) (N := 31) X hT mx0 gx0 rfl rfl 28 (by decide) (List.mem_of_getElem? (i := 32) rfl) inlX12 rfl dX13_known_33 (fun v8995 hv8995 ov8995 => ?_)
      obtain rfl : v8995 = .ref x1 := hv8995.symm.trans pf1
      refine lv_iload_n hx hb dX13_known_36 rfl (lv_at hl 0 rfl) ?_
      refine t_ild X hT mx1 gx1 rfl (by omega) dX13_known_37 (fun z8996 vz8996 rz8996 => ?_)
      have rz8996 : (-2147483648) ≤ z8996.toInt ∧ z8996.toInt ≤ 2147483647 := rz8996
      refine lv_iload_n hx hb dX13_known_38 rfl (lv_at hl 2 rfl) ?_
      refine lv_icmp_eq (tgt := 47) hx hb dX13_known_39 (by decide) (fun c8997 => ?_) (fun c8997 => ?_)
      · have w8998 := cv_eq (rfl : z8996.toInt = z8996.toInt) (rfl : p1.toInt = p1.toInt) c8997
        refine lv_aload_n hx hb dX13_known_47 rfl (lv_at hl 1 rfl) ?_
        refine t_get (C := RX13) (T := TX13) (N := 37) X hT m0 g0 rfl rfl 9 (by decide) qw_478 inlX13 rfl dX13_known_48 (fun v8999 hv8999 ov8999 => ?_)
        obtain rfl : v8999 = .int soz8980 := hv8999.symm.trans qsoz8980
        refine lv_iconst (v := 5) hx hb dX13_known_51 (by decide) ?_
        refine lv_icmp_ne (tgt := 59) hx hb dX13_known_52 (by decide) (fun c9000 => ?_) (fun c9000 => ?_)
        · have w9001 := cv_ne (rfl : soz8980.toInt = soz8980.toInt) (by decide : (5 : Int32).toInt = 5) c9000
          exfalso
          omega
        · have w9002 := cv_eq (rfl : soz8980.toInt = soz8980.toInt) (by decide : (5 : Int32).toInt = 5) c9000
          refine lv_iconst (v := 0) hx hb dX13_known_55 (by decide) ?_
          refine lv_goto (tgt := 68) hx hb dX13_known_56 (by decide) ?_
          have k9003 : (0 : Int32).toInt = 0 := by decide
          exact t_iret hQ X hT (⟨(by decide), hfr, hrel, ⟨soz8980, spz8980, faz8980, qsoz8980, qspz8980, qfaz8980, (by omega), (by omega), (by omega), hstk, hspt, hkf⟩⟩) (Nat.le_of_ble_eq_true rfl) (Nat.le_of_ble_eq_true rfl) dX13_known_68
      · have w9004 := cv_ne (rfl : z8996.toInt = z8996.toInt) (rfl : p1.toInt = p1.toInt) c8997
        refine lv_aload_n hx hb dX13_known_42 rfl (lv_at hl 1 rfl) ?_
        refine lv_iconst (v := 2) hx hb dX13_known_43 (by decide) ?_
        refine t_cVv (n := 1) (C := RX13) (T := TX13) (N := 37) (As := [.int 2]) (rest := []) X hT (km10_X13_flaw l G tag L F hT.2.2.2 p0 2 x0 x1 x2 soz8980 spz8980 faz8980 m0 g0 (by decide) mx0 gx0 pf0 mx1 gx1 pf1 mx2 gx2 pf2 (by omega) qsoz8980 (by omega) qspz8980 (by omega) qfaz8980 hkf) m0 g0 rfl rfl qw_548 qw_549 qw_550 qw_5 qw_551 ⟨rfl, by decide +kernel, by decide +kernel, by decide +kernel⟩ ⟨Nat.le_of_ble_eq_true rfl, Nat.le_of_ble_eq_true rfl⟩ hl rfl rfl (Nat.le_of_ble_eq_true rfl) dX13_known_44 ⟨Nat.le_of_ble_eq_true rfl, Nat.le_of_ble_eq_true rfl⟩ (fun F H locs hT hz9005 => ?_)
        obtain ⟨yz9005, ⟨soz9005, spz9005, faz9005, qsoz9005, qspz9005, qfaz9005, rsoz9005, rspz9005, rfaz9005, stz9005, ptz9005, hkf, pxz9005_0⟩⟩ := hz9005
        have pf0 := (yz9005.1 _ 4 (Or.inr (by decide)) (Or.inr (by decide)) (Or.inr (by decide))).trans pf0
        have pf1 := (yz9005.1 _ 28 (Or.inr (by decide)) (Or.inr (by decide)) (Or.inr (by decide))).trans pf1
        have pf2 := (yz9005.1 _ 29 (Or.inr (by decide)) (Or.inr (by decide)) (Or.inr (by decide))).trans pf2
        have qspz8980 := (yz9005.1 _ 8 (Or.inr (by decide)) (Or.inr (by decide)) (Or.inr (by decide))).trans qspz8980
        have vz8996 := (yz9005.2 _ _ ).trans vz8996
        have hfr : (∀ b j : Nat, (tag b ≠ 46 ∨ j ≠ 9) → (tag b ≠ 46 ∨ j ≠ 13) → (tag b ≠ 46 ∨ j ≠ 14) → fld F b j = fld Fo b j) ∧ (∀ b j : Nat, elm F b j = elm Fo b j) := ⟨fun b j n46_9 n46_13 n46_14 => (yz9005.1 b j n46_9 n46_13 n46_14).trans (hfr.1 b j n46_9 n46_13 n46_14), fun b j  => (yz9005.2 b j ).trans (hfr.2 b j )⟩
        have hrel := msr_of (fun j => yz9005.2 _ j ) (fun j => yz9005.2 _ j ) hrel
        have hstk := STK.tr hstk stz9005
        have hspt := SPT.tr hspt ptz9005
        have k5z9005 : soz9005.toInt = 5 := stz9005 (by omega)
        refine lv_aload_n hx hb dX13_known_47 rfl (lv_at hl 1 rfl) ?_
        refine t_get (C := RX13) (T := TX13) (N := 37) X hT m0 g0 rfl rfl 9 (by decide) qw_478 inlX13 rfl dX13_known_48 (fun v9006 hv9006 ov9006 => ?_)
        obtain rfl : v9006 = .int soz9005 := hv9006.symm.trans qsoz9005
        refine lv_iconst (v := 5) hx hb dX13_known_51 (by decide) ?_
        refine lv_icmp_ne (tgt := 59) hx hb dX13_known_52 (by decide) (fun c9007 => ?_) (fun c9007 => ?_)
        · have w9008 := cv_ne (rfl : soz9005.toInt = soz9005.toInt) (by decide : (5 : Int32).toInt = 5) c9007
          exfalso
          omega
        · have w9009 := cv_eq (rfl : soz9005.toInt = soz9005.toInt) (by decide : (5 : Int32).toInt = 5) c9007
          refine lv_iconst (v := 0) hx hb dX13_known_55 (by decide) ?_
          refine lv_goto (tgt := 68) hx hb dX13_known_56 (by decide) ?_
          have k9010 : (0 : Int32).toInt = 0 := by decide
          exact t_iret hQ X hT (⟨(by decide), hfr, hrel, ⟨soz9005, spz9005, faz9005, qsoz9005, qspz9005, qfaz9005, (by omega), (by omega), (by omega), hstk, hspt, hkf⟩⟩) (Nat.le_of_ble_eq_true rfl) (Nat.le_of_ble_eq_true rfl) dX13_known_68
