set_option maxHeartbeats 4000000 in
set_option maxRecDepth 100000 in
theorem km40_X13_needs (l : Launch) (G : KG) (tag : Nat → Nat) (L : List Nat) (Fo : Nat → va_E) (ho : okT G ttC tag L Fo) (p0 : Nat) (p1 : Nat) (x0 : Nat) (x1 : Nat) (x2 : Nat) (x3 : Int32) (x4 : Int32) (x5 : Int32) (m0 : p0 ∈ L) (g0 : tag p0 = 46) (h1 : p1 < 77) (mx0 : x0 ∈ L) (gx0 : tag x0 = 44) (pf0 : fld Fo p0 4 = .ref x0) (mx1 : x1 ∈ L) (gx1 : tag x1 = 35) (pf1 : fld Fo x0 28 = .ref x1) (mx2 : x2 ∈ L) (gx2 : tag x2 = 36) (pf2 : fld Fo x0 29 = .ref x2) (hx3 : 0 ≤ x3.toInt ∧ x3.toInt ≤ 5) (pf3 : fld Fo p0 9 = .int x3) (hx4 : 0 ≤ x4.toInt ∧ x4.toInt ≤ 1000) (pf4 : fld Fo p0 8 = .int x4) (hx5 : 0 ≤ x5.toInt ∧ x5.toInt ≤ 7) (pf5 : fld Fo p0 13 = .int x5) (hkf : KF x3 x5) : TMv l yX13_needs cX13_needs 2 { frames := 6, cells := 0, slots := 0, locals := 129 } G ttC tag L Fo [.ref p0, .ref (G.2 (100 + p1))] (fun F1 => ((∀ b j : Nat, (tag b ≠ 46 ∨ j ≠ 8) → (tag b ≠ 46 ∨ j ≠ 9) → (tag b ≠ 46 ∨ j ≠ 10) → (tag b ≠ 46 ∨ j ≠ 11) → (tag b ≠ 46 ∨ j ≠ 12) → (tag b ≠ 46 ∨ j ≠ 13) → (tag b ≠ 46 ∨ j ≠ 14) → (tag b ≠ 46 ∨ j ≠ 15) → fld F1 b j = fld Fo b j) ∧ (∀ b j : Nat, elm F1 b j = elm Fo b j)) ∧ (∃ so sp fa : Int32, fld F1 p0 9 = .int so ∧ fld F1 p0 8 = .int sp ∧ fld F1 p0 13 = .int fa ∧ (0 ≤ so.toInt ∧ so.toInt ≤ 5) ∧ (0 ≤ sp.toInt ∧ sp.toInt ≤ 1000) ∧ (0 ≤ fa.toInt ∧ fa.toInt ≤ 7) ∧ STK x3 so ∧ SPT x3 x4 so sp ∧ KF so fa)) := by
  refine t_bodyv (y := yX13_needs) (cd := cX13_needs) (mL := 2) (rm := { frames := 6, cells := 0, slots := 0, locals := 129 }) (av := [.ref p0, .ref (G.2 (100 + p1))]) (by decide) (Nat.le_of_ble_eq_true rfl) ho ?_
  intro p e s m args below meth c ls A Q hQ X hT hl
  have hx := X.1.1
  have hb := X.1.2.1
  have hl : lv_has ls 2 [(0, .ref p0), (1, .ref (G.2 (100 + p1)))] := hl
  obtain ⟨F, hFo⟩ : ∃ F : Nat → va_E, F = Fo := ⟨_, rfl⟩
  rw [← hFo] at hT pf0 pf1 pf2 pf3 pf4 pf5
  have hfr : (∀ b j : Nat, (tag b ≠ 46 ∨ j ≠ 8) → (tag b ≠ 46 ∨ j ≠ 9) → (tag b ≠ 46 ∨ j ≠ 10) → (tag b ≠ 46 ∨ j ≠ 11) → (tag b ≠ 46 ∨ j ≠ 12) → (tag b ≠ 46 ∨ j ≠ 13) → (tag b ≠ 46 ∨ j ≠ 14) → (tag b ≠ 46 ∨ j ≠ 15) → fld F b j = fld Fo b j) ∧ (∀ b j : Nat, elm F b j = elm Fo b j) := by
    rw [hFo]
    exact ⟨by intros; rfl, by intros; rfl⟩
  have hstk : STK x3 x3 := STK.rf
  have hspt : SPT x3 x4 x3 x4 := SPT.rf
  have K13 : ∀ (z15065 : Int32) (z15066 : Int32) (z15067 : Int32) (F : Nat → va_E) (H : Heap) (locs : List Loc) (ls : Array Slot), (0 ≤ z15065.toInt ∧ z15065.toInt ≤ 5) → (0 ≤ z15066.toInt ∧ z15066.toInt ≤ 1000) → (0 ≤ z15067.toInt ∧ z15067.toInt ≤ 7) → TH G ttC A s tag L F H locs → ((∀ b j : Nat, (tag b ≠ 46 ∨ j ≠ 8) → (tag b ≠ 46 ∨ j ≠ 9) → (tag b ≠ 46 ∨ j ≠ 10) → (tag b ≠ 46 ∨ j ≠ 11) → (tag b ≠ 46 ∨ j ≠ 12) → (tag b ≠ 46 ∨ j ≠ 13) → (tag b ≠ 46 ∨ j ≠ 14) → (tag b ≠ 46 ∨ j ≠ 15) → fld F b j = fld Fo b j) ∧ (∀ b j : Nat, elm F b j = elm Fo b j)) → (fld F p0 4 = .ref x0) → (fld F x0 28 = .ref x1) → (fld F x0 29 = .ref x2) → (fld F p0 9 = .int z15065) → (fld F p0 8 = .int z15066) → (fld F p0 13 = .int z15067) → (STK x3 z15065) → (SPT x3 x4 z15065 z15066) → (KF z15065 z15067) → lv_has ls 2 [(0, .ref p0), (1, .ref (G.2 (100 + p1)))] → W p l e { frames := 6, cells := 0, slots := 0, locals := 129 } s m args below meth c H locs 0 0 Q (F0 m 13 ls []) := by
    intro z15065 z15066 z15067 F H locs ls rz15065 rz15066 rz15067 hT hfr pf0 pf1 pf2 qz15065 qz15066 qz15067 hstk hspt hkf hl
    refine lv_aload_n hx hb dX13_needs_13 rfl (lv_at hl 0 rfl) ?_
    refine t_cVv (n := 0) (C := RX13) (T := TX13) (N := 37) (As := []) (rest := []) X hT (km14_X13_goesOn l G tag L F hT.2.2.2 p0 x0 x1 x2 z15065 z15066 z15067 m0 g0 mx0 gx0 pf0 mx1 gx1 pf1 mx2 gx2 pf2 (by omega) qz15065 (by omega) qz15066 (by omega) qz15067 hkf) m0 g0 rfl rfl qw_508 qw_509 qw_510 qw_5 qw_511 ⟨rfl, by decide +kernel, by decide +kernel, by decide +kernel⟩ ⟨Nat.le_of_ble_eq_true rfl, Nat.le_of_ble_eq_true rfl⟩ hl rfl rfl (Nat.le_of_ble_eq_true rfl) dX13_needs_14 ⟨Nat.le_of_ble_eq_true rfl, Nat.le_of_ble_eq_true rfl⟩ (fun F H locs hT hz15068 => ?_)
    obtain ⟨yz15068, ⟨soz15068, spz15068, faz15068, qsoz15068, qspz15068, qfaz15068, rsoz15068, rspz15068, rfaz15068, stz15068, ptz15068, hkf⟩⟩ := hz15068
    have qz15067 := (yz15068.1 _ 13 (Or.inr (by decide)) (Or.inr (by decide)) (Or.inr (by decide)) (Or.inr (by decide)) (Or.inr (by decide)) (Or.inr (by decide))).trans qz15067
    have pf0 := (yz15068.1 _ 4 (Or.inr (by decide)) (Or.inr (by decide)) (Or.inr (by decide)) (Or.inr (by decide)) (Or.inr (by decide)) (Or.inr (by decide))).trans pf0
    have pf1 := (yz15068.1 _ 28 (Or.inr (by decide)) (Or.inr (by decide)) (Or.inr (by decide)) (Or.inr (by decide)) (Or.inr (by decide)) (Or.inr (by decide))).trans pf1
    have pf2 := (yz15068.1 _ 29 (Or.inr (by decide)) (Or.inr (by decide)) (Or.inr (by decide)) (Or.inr (by decide)) (Or.inr (by decide)) (Or.inr (by decide))).trans pf2
    have hfr : (∀ b j : Nat, (tag b ≠ 46 ∨ j ≠ 8) → (tag b ≠ 46 ∨ j ≠ 9) → (tag b ≠ 46 ∨ j ≠ 10) → (tag b ≠ 46 ∨ j ≠ 11) → (tag b ≠ 46 ∨ j ≠ 12) → (tag b ≠ 46 ∨ j ≠ 13) → (tag b ≠ 46 ∨ j ≠ 14) → (tag b ≠ 46 ∨ j ≠ 15) → fld F b j = fld Fo b j) ∧ (∀ b j : Nat, elm F b j = elm Fo b j) := ⟨fun b j n46_8 n46_9 n46_10 n46_11 n46_12 n46_13 n46_14 n46_15 => (yz15068.1 b j n46_8 n46_9 n46_10 n46_11 n46_12 n46_15).trans (hfr.1 b j n46_8 n46_9 n46_10 n46_11 n46_12 n46_13 n46_14 n46_15), fun b j  => (yz15068.2 b j ).trans (hfr.2 b j )⟩
    have hstk := STK.tr hstk stz15068
    have hspt := SPT.tr hspt ptz15068
    exact t_vret hQ X hT ⟨hfr, ⟨soz15068, spz15068, faz15068, qsoz15068, qspz15068, qfaz15068, (by omega), (by omega), (by omega), hstk, hspt, hkf⟩⟩ (Nat.le_of_ble_eq_true rfl) (Nat.le_of_ble_eq_true rfl) dX13_needs_17
  refine lv_aload_n hx hb dX13_needs_0 rfl (lv_at hl 0 rfl) ?_
  refine lv_aload_n hx hb dX13_needs_1 rfl (lv_at hl 1 rfl) ?_
  refine t_cVi (n := 1) (C := RX13) (T := TX13) (N := 37) (As := [.ref (G.2 (100 + p1))]) (rest := []) X hT (km9_X13_isWord l G tag L F hT.2.2.2 p0 p1 x3 m0 g0 h1 (by omega) pf3) m0 g0 rfl rfl qw_535 qw_536 qw_537 qw_5 qw_538 ⟨rfl, by decide +kernel, by decide +kernel, by decide +kernel⟩ ⟨Nat.le_of_ble_eq_true rfl, Nat.le_of_ble_eq_true rfl⟩ hl rfl rfl (Nat.le_of_ble_eq_true rfl) dX13_needs_2 ⟨Nat.le_of_ble_eq_true rfl, Nat.le_of_ble_eq_true rfl⟩ (fun z15069 F9 H locs hT hz15069 => ?_)
  obtain ⟨fz15069, hz15069, xz15069_0⟩ := hz15069
  rw [fz15069] at hT
  refine lv_if_ne (tgt := 13) hx hb dX13_needs_5 (by decide) (fun c15070 => ?_) (fun c15070 => ?_)
  · have w15071 := cv_ne (rfl : z15069.toInt = z15069.toInt) (by decide : (0 : Int32).toInt = 0) c15070
    exact K13 x3 x4 x5 _ _ _ _ (by omega) (by omega) (by omega) hT hfr pf0 pf1 pf2 pf3 pf4 pf5 hstk hspt hkf (lv_sub hl [0, 1] rfl)
  · have w15072 := cv_eq (rfl : z15069.toInt = z15069.toInt) (by decide : (0 : Int32).toInt = 0) c15070
    refine lv_aload_n hx hb dX13_needs_8 rfl (lv_at hl 0 rfl) ?_
    refine lv_iconst (v := 1) hx hb dX13_needs_9 (by decide) ?_
    refine t_cVv (n := 1) (C := RX13) (T := TX13) (N := 37) (As := [.int 1]) (rest := []) X hT (km10_X13_flaw l G tag L F hT.2.2.2 p0 1 x0 x1 x2 x3 x4 x5 m0 g0 (by decide) mx0 gx0 pf0 mx1 gx1 pf1 mx2 gx2 pf2 (by omega) pf3 (by omega) pf4 (by omega) pf5 hkf) m0 g0 rfl rfl qw_548 qw_549 qw_550 qw_5 qw_551 ⟨rfl, by decide +kernel, by decide +kernel, by decide +kernel⟩ ⟨Nat.le_of_ble_eq_true rfl, Nat.le_of_ble_eq_true rfl⟩ hl rfl rfl (Nat.le_of_ble_eq_true rfl) dX13_needs_10 ⟨Nat.le_of_ble_eq_true rfl, Nat.le_of_ble_eq_true rfl⟩ (fun F H locs hT hz15073 => ?_)
    obtain ⟨yz15073, ⟨soz15073, spz15073, faz15073, qsoz15073, qspz15073, qfaz15073, rsoz15073, rspz15073, rfaz15073, stz15073, ptz15073, hkf, pxz15073_0⟩⟩ := hz15073
    have pf0 := (yz15073.1 _ 4 (Or.inr (by decide)) (Or.inr (by decide)) (Or.inr (by decide))).trans pf0
    have pf1 := (yz15073.1 _ 28 (Or.inr (by decide)) (Or.inr (by decide)) (Or.inr (by decide))).trans pf1
    have pf2 := (yz15073.1 _ 29 (Or.inr (by decide)) (Or.inr (by decide)) (Or.inr (by decide))).trans pf2
    have pf4 := (yz15073.1 _ 8 (Or.inr (by decide)) (Or.inr (by decide)) (Or.inr (by decide))).trans pf4
    have hfr : (∀ b j : Nat, (tag b ≠ 46 ∨ j ≠ 8) → (tag b ≠ 46 ∨ j ≠ 9) → (tag b ≠ 46 ∨ j ≠ 10) → (tag b ≠ 46 ∨ j ≠ 11) → (tag b ≠ 46 ∨ j ≠ 12) → (tag b ≠ 46 ∨ j ≠ 13) → (tag b ≠ 46 ∨ j ≠ 14) → (tag b ≠ 46 ∨ j ≠ 15) → fld F b j = fld Fo b j) ∧ (∀ b j : Nat, elm F b j = elm Fo b j) := ⟨fun b j n46_8 n46_9 n46_10 n46_11 n46_12 n46_13 n46_14 n46_15 => (yz15073.1 b j n46_9 n46_13 n46_14).trans (hfr.1 b j n46_8 n46_9 n46_10 n46_11 n46_12 n46_13 n46_14 n46_15), fun b j  => (yz15073.2 b j ).trans (hfr.2 b j )⟩
    have hstk := STK.tr hstk stz15073
    have hspt := SPT.tr hspt ptz15073
    exact K13 soz15073 spz15073 faz15073 _ _ _ _ (by omega) (by omega) (by omega) hT hfr pf0 pf1 pf2 qsoz15073 qspz15073 qfaz15073 hstk hspt hkf (lv_sub hl [0, 1] rfl)
set_option maxHeartbeats 4000000 in
set_option maxRecDepth 100000 in
theorem km41_X13_bounded (l : Launch) (G : KG) (tag : Nat → Nat) (L : List Nat) (Fo : Nat → va_E) (ho : okT G ttC tag L Fo) (p0 : Nat) (p1 : Int32) (p2 : Int32) (x0 : Nat) (x1 : Nat) (x2 : Nat) (x3 : Int32) (x4 : Int32) (x5 : Int32) (m0 : p0 ∈ L) (g0 : tag p0 = 46) (h1 : 0 ≤ p1.toInt ∧ p1.toInt ≤ 0) (h2 : 99 ≤ p2.toInt ∧ p2.toInt ≤ 99) (mx0 : x0 ∈ L) (gx0 : tag x0 = 44) (pf0 : fld Fo p0 4 = .ref x0) (mx1 : x1 ∈ L) (gx1 : tag x1 = 35) (pf1 : fld Fo x0 28 = .ref x1) (mx2 : x2 ∈ L) (gx2 : tag x2 = 36) (pf2 : fld Fo x0 29 = .ref x2) (hx3 : 0 ≤ x3.toInt ∧ x3.toInt ≤ 5) (pf3 : fld Fo p0 9 = .int x3) (hx4 : 0 ≤ x4.toInt ∧ x4.toInt ≤ 1000) (pf4 : fld Fo p0 8 = .int x4) (hx5 : 0 ≤ x5.toInt ∧ x5.toInt ≤ 7) (pf5 : fld Fo p0 13 = .int x5) (hkf : KF x3 x5) : TMi l yX13_bounded cX13_bounded 3 (some .int) { frames := 1, cells := 0, slots := 0, locals := 22 } G ttC tag L Fo [.ref p0, .int p1, .int p2] (fun r F1 => (0 ≤ r.toInt ∧ r.toInt ≤ 99) ∧ ((∀ b j : Nat, (tag b ≠ 46 ∨ j ≠ 9) → (tag b ≠ 46 ∨ j ≠ 13) → (tag b ≠ 46 ∨ j ≠ 14) → fld F1 b j = fld Fo b j) ∧ (∀ b j : Nat, elm F1 b j = elm Fo b j)) ∧ (∃ so sp fa : Int32, fld F1 p0 9 = .int so ∧ fld F1 p0 8 = .int sp ∧ fld F1 p0 13 = .int fa ∧ (0 ≤ so.toInt ∧ so.toInt ≤ 5) ∧ (0 ≤ sp.toInt ∧ sp.toInt ≤ 1000) ∧ (0 ≤ fa.toInt ∧ fa.toInt ≤ 7) ∧ STK x3 so ∧ SPT x3 x4 so sp ∧ KF so fa)) := by
  refine t_bodyi (y := yX13_bounded) (cd := cX13_bounded) (mL := 3) (rt := (some .int)) (rm := { frames := 1, cells := 0, slots := 0, locals := 22 }) (av := [.ref p0, .int p1, .int p2]) (by decide) (Nat.le_of_ble_eq_true rfl) ho ?_
  intro p e s m args below meth c ls A Q hQ X hT hl
  have hx := X.1.1
  have hb := X.1.2.1
  have hl : lv_has ls 3 [(0, .ref p0), (1, .int p1), (2, .int p2)] := hl
  obtain ⟨F, hFo⟩ : ∃ F : Nat → va_E, F = Fo := ⟨_, rfl⟩
  rw [← hFo] at hT pf0 pf1 pf2 pf3 pf4 pf5
  have hfr : (∀ b j : Nat, (tag b ≠ 46 ∨ j ≠ 9) → (tag b ≠ 46 ∨ j ≠ 13) → (tag b ≠ 46 ∨ j ≠ 14) → fld F b j = fld Fo b j) ∧ (∀ b j : Nat, elm F b j = elm Fo b j) := by
    rw [hFo]
    exact ⟨by intros; rfl, by intros; rfl⟩
  have hstk : STK x3 x3 := STK.rf
  have hspt : SPT x3 x4 x3 x4 := SPT.rf
  refine lv_aload_n hx hb dX13_bounded_0 rfl (lv_at hl 0 rfl) ?_
  refine t_get (C := RX13) (T := TX13) (N := 37) X hT m0 g0 rfl rfl 9 (by decide) qw_478 inlX13 rfl dX13_bounded_1 (fun v15361 hv15361 ov15361 => ?_)
  obtain rfl : v15361 = .int x3 := hv15361.symm.trans pf3
  refine lv_iconst (v := 3) hx hb dX13_bounded_4 (by decide) ?_
  refine lv_icmp_eq (tgt := 16) hx hb dX13_bounded_5 (by decide) (fun c15362 => ?_) (fun c15362 => ?_)
  · have w15363 := cv_eq (rfl : x3.toInt = x3.toInt) (by decide : (3 : Int32).toInt = 3) c15362
    refine lv_aload_n hx hb dX13_bounded_16 rfl (lv_at hl 0 rfl) ?_
    refine t_get (C := RX13) (T := TX13) (N := 37) X hT m0 g0 rfl rfl 12 (by decide) qw_516 inlX13 rfl dX13_bounded_17 (fun v15364 hv15364 ov15364 => ?_)
    obtain ⟨z15365, rfl, rz15365⟩ := okV_i ov15364
    refine lv_iload_n hx hb dX13_bounded_20 rfl (lv_at hl 1 rfl) ?_
    refine lv_iload_n hx hb dX13_bounded_21 rfl (lv_at hl 2 rfl) ?_
    refine t_cSi (n := 3) (As := [.int z15365, .int p1, .int p2]) (rest := []) X hT (km19_X13_within l G tag L F hT.2.2.2 z15365 p1 p2 ) qw_568 qw_569 qw_5 qw_570 ⟨by decide +kernel, by decide +kernel, by decide +kernel⟩ ⟨Nat.le_of_ble_eq_true rfl, Nat.le_of_ble_eq_true rfl⟩ hl rfl rfl (Nat.le_of_ble_eq_true rfl) dX13_bounded_22 ⟨Nat.le_of_ble_eq_true rfl, Nat.le_of_ble_eq_true rfl⟩ (fun z15366 F9 H locs hT hz15366 => ?_)
    obtain ⟨fz15366, hz15366, xz15366_0⟩ := hz15366
    rw [fz15366] at hT
    refine lv_if_ne (tgt := 33) hx hb dX13_bounded_25 (by decide) (fun c15367 => ?_) (fun c15367 => ?_)
    · have w15368 := cv_ne (rfl : z15366.toInt = z15366.toInt) (by decide : (0 : Int32).toInt = 0) c15367
      have w15369 := xz15366_0 (by omega)
      refine lv_aload_n hx hb dX13_bounded_33 rfl (lv_at hl 0 rfl) ?_
      refine t_get (C := RX13) (T := TX13) (N := 37) X hT m0 g0 rfl rfl 9 (by decide) qw_478 inlX13 rfl dX13_bounded_34 (fun v15370 hv15370 ov15370 => ?_)
      obtain rfl : v15370 = .int x3 := hv15370.symm.trans pf3
      refine lv_iconst (v := 5) hx hb dX13_bounded_37 (by decide) ?_
      refine lv_icmp_ne (tgt := 45) hx hb dX13_bounded_38 (by decide) (fun c15371 => ?_) (fun c15371 => ?_)
      · have w15372 := cv_ne (rfl : x3.toInt = x3.toInt) (by decide : (5 : Int32).toInt = 5) c15371
        refine lv_aload_n hx hb dX13_bounded_45 rfl (lv_at hl 0 rfl) ?_
        refine t_get (C := RX13) (T := TX13) (N := 37) X hT m0 g0 rfl rfl 12 (by decide) qw_516 inlX13 rfl dX13_bounded_46 (fun v15373 hv15373 ov15373 => ?_)
        obtain rfl : v15373 = .int z15365 := hv15373.symm.trans hv15364
        exact t_iret hQ X hT (⟨(by omega), hfr, ⟨x3, x4, x5, pf3, pf4, pf5, (by omega), (by omega), (by omega), hstk, hspt, hkf⟩⟩) (Nat.le_of_ble_eq_true rfl) (Nat.le_of_ble_eq_true rfl) dX13_bounded_49
      · have w15374 := cv_eq (rfl : x3.toInt = x3.toInt) (by decide : (5 : Int32).toInt = 5) c15371
        exfalso
        omega
    · have w15375 := cv_eq (rfl : z15366.toInt = z15366.toInt) (by decide : (0 : Int32).toInt = 0) c15367
      refine lv_aload_n hx hb dX13_bounded_28 rfl (lv_at hl 0 rfl) ?_
      refine lv_iconst (v := 4) hx hb dX13_bounded_29 (by decide) ?_
      refine t_cVv (n := 1) (C := RX13) (T := TX13) (N := 37) (As := [.int 4]) (rest := []) X hT (km10_X13_flaw l G tag L F hT.2.2.2 p0 4 x0 x1 x2 x3 x4 x5 m0 g0 (by decide) mx0 gx0 pf0 mx1 gx1 pf1 mx2 gx2 pf2 (by omega) pf3 (by omega) pf4 (by omega) pf5 hkf) m0 g0 rfl rfl qw_548 qw_549 qw_550 qw_5 qw_551 ⟨rfl, by decide +kernel, by decide +kernel, by decide +kernel⟩ ⟨Nat.le_of_ble_eq_true rfl, Nat.le_of_ble_eq_true rfl⟩ hl rfl rfl (Nat.le_of_ble_eq_true rfl) dX13_bounded_30 ⟨Nat.le_of_ble_eq_true rfl, Nat.le_of_ble_eq_true rfl⟩ (fun F H locs hT hz15376 => ?_)
      obtain ⟨yz15376, ⟨soz15376, spz15376, faz15376, qsoz15376, qspz15376, qfaz15376, rsoz15376, rspz15376, rfaz15376, stz15376, ptz15376, hkf, pxz15376_0⟩⟩ := hz15376
      have pf0 := (yz15376.1 _ 4 (Or.inr (by decide)) (Or.inr (by decide)) (Or.inr (by decide))).trans pf0
      have pf1 := (yz15376.1 _ 28 (Or.inr (by decide)) (Or.inr (by decide)) (Or.inr (by decide))).trans pf1
      have pf2 := (yz15376.1 _ 29 (Or.inr (by decide)) (Or.inr (by decide)) (Or.inr (by decide))).trans pf2
      have pf4 := (yz15376.1 _ 8 (Or.inr (by decide)) (Or.inr (by decide)) (Or.inr (by decide))).trans pf4
      have hv15364 := (yz15376.1 _ 12 (Or.inr (by decide)) (Or.inr (by decide)) (Or.inr (by decide))).trans hv15364
      have hfr : (∀ b j : Nat, (tag b ≠ 46 ∨ j ≠ 9) → (tag b ≠ 46 ∨ j ≠ 13) → (tag b ≠ 46 ∨ j ≠ 14) → fld F b j = fld Fo b j) ∧ (∀ b j : Nat, elm F b j = elm Fo b j) := ⟨fun b j n46_9 n46_13 n46_14 => (yz15376.1 b j n46_9 n46_13 n46_14).trans (hfr.1 b j n46_9 n46_13 n46_14), fun b j  => (yz15376.2 b j ).trans (hfr.2 b j )⟩
      have hstk := STK.tr hstk stz15376
      have hspt := SPT.tr hspt ptz15376
      refine lv_aload_n hx hb dX13_bounded_33 rfl (lv_at hl 0 rfl) ?_
      refine t_get (C := RX13) (T := TX13) (N := 37) X hT m0 g0 rfl rfl 9 (by decide) qw_478 inlX13 rfl dX13_bounded_34 (fun v15377 hv15377 ov15377 => ?_)
      obtain rfl : v15377 = .int soz15376 := hv15377.symm.trans qsoz15376
      refine lv_iconst (v := 5) hx hb dX13_bounded_37 (by decide) ?_
      refine lv_icmp_ne (tgt := 45) hx hb dX13_bounded_38 (by decide) (fun c15378 => ?_) (fun c15378 => ?_)
      · have w15379 := cv_ne (rfl : soz15376.toInt = soz15376.toInt) (by decide : (5 : Int32).toInt = 5) c15378
        exfalso
        omega
      · have w15380 := cv_eq (rfl : soz15376.toInt = soz15376.toInt) (by decide : (5 : Int32).toInt = 5) c15378
        refine lv_iload_n hx hb dX13_bounded_41 rfl (lv_at hl 1 rfl) ?_
        refine lv_goto (tgt := 49) hx hb dX13_bounded_42 (by decide) ?_
        exact t_iret hQ X hT (⟨(by omega), hfr, ⟨soz15376, spz15376, faz15376, qsoz15376, qspz15376, qfaz15376, (by omega), (by omega), (by omega), hstk, hspt, hkf⟩⟩) (Nat.le_of_ble_eq_true rfl) (Nat.le_of_ble_eq_true rfl) dX13_bounded_49
  · have w15381 := cv_ne (rfl : x3.toInt = x3.toInt) (by decide : (3 : Int32).toInt = 3) c15362
    refine lv_aload_n hx hb dX13_bounded_8 rfl (lv_at hl 0 rfl) ?_
    refine lv_iconst (v := 1) hx hb dX13_bounded_9 (by decide) ?_
    refine t_cVv (n := 1) (C := RX13) (T := TX13) (N := 37) (As := [.int 1]) (rest := []) X hT (km10_X13_flaw l G tag L F hT.2.2.2 p0 1 x0 x1 x2 x3 x4 x5 m0 g0 (by decide) mx0 gx0 pf0 mx1 gx1 pf1 mx2 gx2 pf2 (by omega) pf3 (by omega) pf4 (by omega) pf5 hkf) m0 g0 rfl rfl qw_548 qw_549 qw_550 qw_5 qw_551 ⟨rfl, by decide +kernel, by decide +kernel, by decide +kernel⟩ ⟨Nat.le_of_ble_eq_true rfl, Nat.le_of_ble_eq_true rfl⟩ hl rfl rfl (Nat.le_of_ble_eq_true rfl) dX13_bounded_10 ⟨Nat.le_of_ble_eq_true rfl, Nat.le_of_ble_eq_true rfl⟩ (fun F H locs hT hz15382 => ?_)
    obtain ⟨yz15382, ⟨soz15382, spz15382, faz15382, qsoz15382, qspz15382, qfaz15382, rsoz15382, rspz15382, rfaz15382, stz15382, ptz15382, hkf, pxz15382_0⟩⟩ := hz15382
    have pf0 := (yz15382.1 _ 4 (Or.inr (by decide)) (Or.inr (by decide)) (Or.inr (by decide))).trans pf0
    have pf1 := (yz15382.1 _ 28 (Or.inr (by decide)) (Or.inr (by decide)) (Or.inr (by decide))).trans pf1
    have pf2 := (yz15382.1 _ 29 (Or.inr (by decide)) (Or.inr (by decide)) (Or.inr (by decide))).trans pf2
    have pf4 := (yz15382.1 _ 8 (Or.inr (by decide)) (Or.inr (by decide)) (Or.inr (by decide))).trans pf4
    have hfr : (∀ b j : Nat, (tag b ≠ 46 ∨ j ≠ 9) → (tag b ≠ 46 ∨ j ≠ 13) → (tag b ≠ 46 ∨ j ≠ 14) → fld F b j = fld Fo b j) ∧ (∀ b j : Nat, elm F b j = elm Fo b j) := ⟨fun b j n46_9 n46_13 n46_14 => (yz15382.1 b j n46_9 n46_13 n46_14).trans (hfr.1 b j n46_9 n46_13 n46_14), fun b j  => (yz15382.2 b j ).trans (hfr.2 b j )⟩
    have hstk := STK.tr hstk stz15382
    have hspt := SPT.tr hspt ptz15382
    refine lv_goto (tgt := 33) hx hb dX13_bounded_13 (by decide) ?_
    refine lv_aload_n hx hb dX13_bounded_33 rfl (lv_at hl 0 rfl) ?_
    refine t_get (C := RX13) (T := TX13) (N := 37) X hT m0 g0 rfl rfl 9 (by decide) qw_478 inlX13 rfl dX13_bounded_34 (fun v15383 hv15383 ov15383 => ?_)
    obtain rfl : v15383 = .int soz15382 := hv15383.symm.trans qsoz15382
    refine lv_iconst (v := 5) hx hb dX13_bounded_37 (by decide) ?_
    refine lv_icmp_ne (tgt := 45) hx hb dX13_bounded_38 (by decide) (fun c15384 => ?_) (fun c15384 => ?_)
    · have w15385 := cv_ne (rfl : soz15382.toInt = soz15382.toInt) (by decide : (5 : Int32).toInt = 5) c15384
      exfalso
      omega
    · have w15386 := cv_eq (rfl : soz15382.toInt = soz15382.toInt) (by decide : (5 : Int32).toInt = 5) c15384
      refine lv_iload_n hx hb dX13_bounded_41 rfl (lv_at hl 1 rfl) ?_
      refine lv_goto (tgt := 49) hx hb dX13_bounded_42 (by decide) ?_
      exact t_iret hQ X hT (⟨(by omega), hfr, ⟨soz15382, spz15382, faz15382, qsoz15382, qspz15382, qfaz15382, (by omega), (by omega), (by omega), hstk, hspt, hkf⟩⟩) (Nat.le_of_ble_eq_true rfl) (Nat.le_of_ble_eq_true rfl) dX13_bounded_49
set_option maxHeartbeats 4000000 in
set_option maxRecDepth 100000 in
theorem km42_X13_readWhole (l : Launch) (G : KG) (tag : Nat → Nat) (L : List Nat) (Fo : Nat → va_E) (ho : okT G ttC tag L Fo) (p0 : Nat) (p1 : Int32) (p2 : Int32) (x0 : Nat) (x1 : Nat) (x2 : Nat) (x3 : Int32) (x4 : Int32) (x5 : Int32) (m0 : p0 ∈ L) (g0 : tag p0 = 46) (h1 : 0 ≤ p1.toInt ∧ p1.toInt ≤ 0) (h2 : 99 ≤ p2.toInt ∧ p2.toInt ≤ 99) (mx0 : x0 ∈ L) (gx0 : tag x0 = 44) (pf0 : fld Fo p0 4 = .ref x0) (mx1 : x1 ∈ L) (gx1 : tag x1 = 35) (pf1 : fld Fo x0 28 = .ref x1) (mx2 : x2 ∈ L) (gx2 : tag x2 = 36) (pf2 : fld Fo x0 29 = .ref x2) (hx3 : 0 ≤ x3.toInt ∧ x3.toInt ≤ 5) (pf3 : fld Fo p0 9 = .int x3) (hx4 : 0 ≤ x4.toInt ∧ x4.toInt ≤ 1000) (pf4 : fld Fo p0 8 = .int x4) (hx5 : 0 ≤ x5.toInt ∧ x5.toInt ≤ 7) (pf5 : fld Fo p0 13 = .int x5) (hkf : KF x3 x5) : TMi l yX13_readWhole cX13_readWhole 4 (some .int) { frames := 2, cells := 0, slots := 0, locals := 44 } G ttC tag L Fo [.ref p0, .int p1, .int p2] (fun r F1 => (0 ≤ r.toInt ∧ r.toInt ≤ 99) ∧ ((∀ b j : Nat, (tag b ≠ 46 ∨ j ≠ 8) → (tag b ≠ 46 ∨ j ≠ 9) → (tag b ≠ 46 ∨ j ≠ 10) → (tag b ≠ 46 ∨ j ≠ 11) → (tag b ≠ 46 ∨ j ≠ 12) → (tag b ≠ 46 ∨ j ≠ 13) → (tag b ≠ 46 ∨ j ≠ 14) → (tag b ≠ 46 ∨ j ≠ 15) → fld F1 b j = fld Fo b j) ∧ (∀ b j : Nat, elm F1 b j = elm Fo b j)) ∧ (∃ so sp fa : Int32, fld F1 p0 9 = .int so ∧ fld F1 p0 8 = .int sp ∧ fld F1 p0 13 = .int fa ∧ (0 ≤ so.toInt ∧ so.toInt ≤ 5) ∧ (0 ≤ sp.toInt ∧ sp.toInt ≤ 1000) ∧ (0 ≤ fa.toInt ∧ fa.toInt ≤ 7) ∧ STK x3 so ∧ SPT x3 x4 so sp ∧ KF so fa)) := by
  refine t_bodyi (y := yX13_readWhole) (cd := cX13_readWhole) (mL := 4) (rt := (some .int)) (rm := { frames := 2, cells := 0, slots := 0, locals := 44 }) (av := [.ref p0, .int p1, .int p2]) (by decide) (Nat.le_of_ble_eq_true rfl) ho ?_
  intro p e s m args below meth c ls A Q hQ X hT hl
  have hx := X.1.1
  have hb := X.1.2.1
  have hl : lv_has ls 4 [(0, .ref p0), (1, .int p1), (2, .int p2)] := hl
  obtain ⟨F, hFo⟩ : ∃ F : Nat → va_E, F = Fo := ⟨_, rfl⟩
  rw [← hFo] at hT pf0 pf1 pf2 pf3 pf4 pf5
  have hfr : (∀ b j : Nat, (tag b ≠ 46 ∨ j ≠ 8) → (tag b ≠ 46 ∨ j ≠ 9) → (tag b ≠ 46 ∨ j ≠ 10) → (tag b ≠ 46 ∨ j ≠ 11) → (tag b ≠ 46 ∨ j ≠ 12) → (tag b ≠ 46 ∨ j ≠ 13) → (tag b ≠ 46 ∨ j ≠ 14) → (tag b ≠ 46 ∨ j ≠ 15) → fld F b j = fld Fo b j) ∧ (∀ b j : Nat, elm F b j = elm Fo b j) := by
    rw [hFo]
    exact ⟨by intros; rfl, by intros; rfl⟩
  have hstk : STK x3 x3 := STK.rf
  have hspt : SPT x3 x4 x3 x4 := SPT.rf
  refine lv_aload_n hx hb dX13_readWhole_0 rfl (lv_at hl 0 rfl) ?_
  refine lv_iload_n hx hb dX13_readWhole_1 rfl (lv_at hl 1 rfl) ?_
  refine lv_iload_n hx hb dX13_readWhole_2 rfl (lv_at hl 2 rfl) ?_
  refine t_cVi (n := 2) (C := RX13) (T := TX13) (N := 37) (As := [.int p1, .int p2]) (rest := []) X hT (km41_X13_bounded l G tag L F hT.2.2.2 p0 p1 p2 x0 x1 x2 x3 x4 x5 m0 g0 (by omega) (by omega) mx0 gx0 pf0 mx1 gx1 pf1 mx2 gx2 pf2 (by omega) pf3 (by omega) pf4 (by omega) pf5 hkf) m0 g0 rfl rfl qw_564 qw_565 qw_566 qw_5 qw_567 ⟨rfl, by decide +kernel, by decide +kernel, by decide +kernel⟩ ⟨Nat.le_of_ble_eq_true rfl, Nat.le_of_ble_eq_true rfl⟩ hl rfl rfl (Nat.le_of_ble_eq_true rfl) dX13_readWhole_3 ⟨Nat.le_of_ble_eq_true rfl, Nat.le_of_ble_eq_true rfl⟩ (fun z15409 F H locs hT hz15409 => ?_)
  obtain ⟨hz15409, yz15409, ⟨soz15409, spz15409, faz15409, qsoz15409, qspz15409, qfaz15409, rsoz15409, rspz15409, rfaz15409, stz15409, ptz15409, hkf⟩⟩ := hz15409
  have pf0 := (yz15409.1 _ 4 (Or.inr (by decide)) (Or.inr (by decide)) (Or.inr (by decide))).trans pf0
  have pf1 := (yz15409.1 _ 28 (Or.inr (by decide)) (Or.inr (by decide)) (Or.inr (by decide))).trans pf1
  have pf2 := (yz15409.1 _ 29 (Or.inr (by decide)) (Or.inr (by decide)) (Or.inr (by decide))).trans pf2
  have pf4 := (yz15409.1 _ 8 (Or.inr (by decide)) (Or.inr (by decide)) (Or.inr (by decide))).trans pf4
  have hfr : (∀ b j : Nat, (tag b ≠ 46 ∨ j ≠ 8) → (tag b ≠ 46 ∨ j ≠ 9) → (tag b ≠ 46 ∨ j ≠ 10) → (tag b ≠ 46 ∨ j ≠ 11) → (tag b ≠ 46 ∨ j ≠ 12) → (tag b ≠ 46 ∨ j ≠ 13) → (tag b ≠ 46 ∨ j ≠ 14) → (tag b ≠ 46 ∨ j ≠ 15) → fld F b j = fld Fo b j) ∧ (∀ b j : Nat, elm F b j = elm Fo b j) := ⟨fun b j n46_8 n46_9 n46_10 n46_11 n46_12 n46_13 n46_14 n46_15 => (yz15409.1 b j n46_9 n46_13 n46_14).trans (hfr.1 b j n46_8 n46_9 n46_10 n46_11 n46_12 n46_13 n46_14 n46_15), fun b j  => (yz15409.2 b j ).trans (hfr.2 b j )⟩
  have hstk := STK.tr hstk stz15409
  have hspt := SPT.tr hspt ptz15409
  refine lv_istore_n (lv' := [(3, .int z15409), (0, .ref p0), (1, .int p1), (2, .int p2)]) hx hb dX13_readWhole_6 rfl hl (by decide) rfl (fun ls hl => ?_)
  refine lv_aload_n hx hb dX13_readWhole_7 rfl (lv_at hl 1 rfl) ?_
  refine t_cVv (n := 0) (C := RX13) (T := TX13) (N := 37) (As := []) (rest := []) X hT (km14_X13_goesOn l G tag L F hT.2.2.2 p0 x0 x1 x2 soz15409 spz15409 faz15409 m0 g0 mx0 gx0 pf0 mx1 gx1 pf1 mx2 gx2 pf2 (by omega) qsoz15409 (by omega) qspz15409 (by omega) qfaz15409 hkf) m0 g0 rfl rfl qw_508 qw_509 qw_510 qw_5 qw_511 ⟨rfl, by decide +kernel, by decide +kernel, by decide +kernel⟩ ⟨Nat.le_of_ble_eq_true rfl, Nat.le_of_ble_eq_true rfl⟩ hl rfl rfl (Nat.le_of_ble_eq_true rfl) dX13_readWhole_8 ⟨Nat.le_of_ble_eq_true rfl, Nat.le_of_ble_eq_true rfl⟩ (fun F H locs hT hz15410 => ?_)
  obtain ⟨yz15410, ⟨soz15410, spz15410, faz15410, qsoz15410, qspz15410, qfaz15410, rsoz15410, rspz15410, rfaz15410, stz15410, ptz15410, hkf⟩⟩ := hz15410
  have pf0 := (yz15410.1 _ 4 (Or.inr (by decide)) (Or.inr (by decide)) (Or.inr (by decide)) (Or.inr (by decide)) (Or.inr (by decide)) (Or.inr (by decide))).trans pf0
  have pf1 := (yz15410.1 _ 28 (Or.inr (by decide)) (Or.inr (by decide)) (Or.inr (by decide)) (Or.inr (by decide)) (Or.inr (by decide)) (Or.inr (by decide))).trans pf1
  have pf2 := (yz15410.1 _ 29 (Or.inr (by decide)) (Or.inr (by decide)) (Or.inr (by decide)) (Or.inr (by decide)) (Or.inr (by decide)) (Or.inr (by decide))).trans pf2
  have qfaz15409 := (yz15410.1 _ 13 (Or.inr (by decide)) (Or.inr (by decide)) (Or.inr (by decide)) (Or.inr (by decide)) (Or.inr (by decide)) (Or.inr (by decide))).trans qfaz15409
  have hfr : (∀ b j : Nat, (tag b ≠ 46 ∨ j ≠ 8) → (tag b ≠ 46 ∨ j ≠ 9) → (tag b ≠ 46 ∨ j ≠ 10) → (tag b ≠ 46 ∨ j ≠ 11) → (tag b ≠ 46 ∨ j ≠ 12) → (tag b ≠ 46 ∨ j ≠ 13) → (tag b ≠ 46 ∨ j ≠ 14) → (tag b ≠ 46 ∨ j ≠ 15) → fld F b j = fld Fo b j) ∧ (∀ b j : Nat, elm F b j = elm Fo b j) := ⟨fun b j n46_8 n46_9 n46_10 n46_11 n46_12 n46_13 n46_14 n46_15 => (yz15410.1 b j n46_8 n46_9 n46_10 n46_11 n46_12 n46_15).trans (hfr.1 b j n46_8 n46_9 n46_10 n46_11 n46_12 n46_13 n46_14 n46_15), fun b j  => (yz15410.2 b j ).trans (hfr.2 b j )⟩
  have hstk := STK.tr hstk stz15410
  have hspt := SPT.tr hspt ptz15410
  refine lv_iload_n hx hb dX13_readWhole_11 rfl (lv_at hl 0 rfl) ?_
  exact t_iret hQ X hT (⟨(by omega), hfr, ⟨soz15410, spz15410, faz15410, qsoz15410, qspz15410, qfaz15410, (by omega), (by omega), (by omega), hstk, hspt, hkf⟩⟩) (Nat.le_of_ble_eq_true rfl) (Nat.le_of_ble_eq_true rfl) dX13_readWhole_12
set_option maxHeartbeats 4000000 in
set_option maxRecDepth 100000 in
theorem km43_X13_readPart (l : Launch) (G : KG) (tag : Nat → Nat) (L : List Nat) (Fo : Nat → va_E) (ho : okT G ttC tag L Fo) (p0 : Nat) (p1 : Nat) (p2 : Int32) (p3 : Int32) (x0 : Nat) (x1 : Nat) (x2 : Nat) (x3 : Int32) (x4 : Int32) (x5 : Int32) (m0 : p0 ∈ L) (g0 : tag p0 = 46) (h1 : p1 < 77) (h2 : 0 ≤ p2.toInt ∧ p2.toInt ≤ 0) (h3 : 99 ≤ p3.toInt ∧ p3.toInt ≤ 99) (mx0 : x0 ∈ L) (gx0 : tag x0 = 44) (pf0 : fld Fo p0 4 = .ref x0) (mx1 : x1 ∈ L) (gx1 : tag x1 = 35) (pf1 : fld Fo x0 28 = .ref x1) (mx2 : x2 ∈ L) (gx2 : tag x2 = 36) (pf2 : fld Fo x0 29 = .ref x2) (hx3 : 0 ≤ x3.toInt ∧ x3.toInt ≤ 5) (pf3 : fld Fo p0 9 = .int x3) (hx4 : 0 ≤ x4.toInt ∧ x4.toInt ≤ 1000) (pf4 : fld Fo p0 8 = .int x4) (hx5 : 0 ≤ x5.toInt ∧ x5.toInt ≤ 7) (pf5 : fld Fo p0 13 = .int x5) (hkf : KF x3 x5) : TMi l yX13_readPart cX13_readPart 4 (some .int) { frames := 7, cells := 0, slots := 0, locals := 150 } G ttC tag L Fo [.ref p0, .ref (G.2 (100 + p1)), .int p2, .int p3] (fun r F1 => (0 ≤ r.toInt ∧ r.toInt ≤ 99) ∧ ((∀ b j : Nat, (tag b ≠ 46 ∨ j ≠ 8) → (tag b ≠ 46 ∨ j ≠ 9) → (tag b ≠ 46 ∨ j ≠ 10) → (tag b ≠ 46 ∨ j ≠ 11) → (tag b ≠ 46 ∨ j ≠ 12) → (tag b ≠ 46 ∨ j ≠ 13) → (tag b ≠ 46 ∨ j ≠ 14) → (tag b ≠ 46 ∨ j ≠ 15) → fld F1 b j = fld Fo b j) ∧ (∀ b j : Nat, elm F1 b j = elm Fo b j)) ∧ (∃ so sp fa : Int32, fld F1 p0 9 = .int so ∧ fld F1 p0 8 = .int sp ∧ fld F1 p0 13 = .int fa ∧ (0 ≤ so.toInt ∧ so.toInt ≤ 5) ∧ (0 ≤ sp.toInt ∧ sp.toInt ≤ 1000) ∧ (0 ≤ fa.toInt ∧ fa.toInt ≤ 7) ∧ STK x3 so ∧ SPT x3 x4 so sp ∧ KF so fa)) := by
  refine t_bodyi (y := yX13_readPart) (cd := cX13_readPart) (mL := 4) (rt := (some .int)) (rm := { frames := 7, cells := 0, slots := 0, locals := 150 }) (av := [.ref p0, .ref (G.2 (100 + p1)), .int p2, .int p3]) (by decide) (Nat.le_of_ble_eq_true rfl) ho ?_
  intro p e s m args below meth c ls A Q hQ X hT hl
  have hx := X.1.1
  have hb := X.1.2.1
  have hl : lv_has ls 4 [(0, .ref p0), (1, .ref (G.2 (100 + p1))), (2, .int p2), (3, .int p3)] := hl
  obtain ⟨F, hFo⟩ : ∃ F : Nat → va_E, F = Fo := ⟨_, rfl⟩
  rw [← hFo] at hT pf0 pf1 pf2 pf3 pf4 pf5
  have hfr : (∀ b j : Nat, (tag b ≠ 46 ∨ j ≠ 8) → (tag b ≠ 46 ∨ j ≠ 9) → (tag b ≠ 46 ∨ j ≠ 10) → (tag b ≠ 46 ∨ j ≠ 11) → (tag b ≠ 46 ∨ j ≠ 12) → (tag b ≠ 46 ∨ j ≠ 13) → (tag b ≠ 46 ∨ j ≠ 14) → (tag b ≠ 46 ∨ j ≠ 15) → fld F b j = fld Fo b j) ∧ (∀ b j : Nat, elm F b j = elm Fo b j) := by
    rw [hFo]
    exact ⟨by intros; rfl, by intros; rfl⟩
  have hstk : STK x3 x3 := STK.rf
  have hspt : SPT x3 x4 x3 x4 := SPT.rf
  refine lv_aload_n hx hb dX13_readPart_0 rfl (lv_at hl 0 rfl) ?_
  refine lv_aload_n hx hb dX13_readPart_1 rfl (lv_at hl 1 rfl) ?_
  refine t_cVv (n := 1) (C := RX13) (T := TX13) (N := 37) (As := [.ref (G.2 (100 + p1))]) (rest := []) X hT (km40_X13_needs l G tag L F hT.2.2.2 p0 p1 x0 x1 x2 x3 x4 x5 m0 g0 h1 mx0 gx0 pf0 mx1 gx1 pf1 mx2 gx2 pf2 (by omega) pf3 (by omega) pf4 (by omega) pf5 hkf) m0 g0 rfl rfl qw_556 qw_557 qw_558 qw_5 qw_559 ⟨rfl, by decide +kernel, by decide +kernel, by decide +kernel⟩ ⟨Nat.le_of_ble_eq_true rfl, Nat.le_of_ble_eq_true rfl⟩ hl rfl rfl (Nat.le_of_ble_eq_true rfl) dX13_readPart_2 ⟨Nat.le_of_ble_eq_true rfl, Nat.le_of_ble_eq_true rfl⟩ (fun F H locs hT hz15432 => ?_)
  obtain ⟨yz15432, ⟨soz15432, spz15432, faz15432, qsoz15432, qspz15432, qfaz15432, rsoz15432, rspz15432, rfaz15432, stz15432, ptz15432, hkf⟩⟩ := hz15432
  have pf0 := (yz15432.1 _ 4 (Or.inr (by decide)) (Or.inr (by decide)) (Or.inr (by decide)) (Or.inr (by decide)) (Or.inr (by decide)) (Or.inr (by decide)) (Or.inr (by decide)) (Or.inr (by decide))).trans pf0
  have pf1 := (yz15432.1 _ 28 (Or.inr (by decide)) (Or.inr (by decide)) (Or.inr (by decide)) (Or.inr (by decide)) (Or.inr (by decide)) (Or.inr (by decide)) (Or.inr (by decide)) (Or.inr (by decide))).trans pf1
  have pf2 := (yz15432.1 _ 29 (Or.inr (by decide)) (Or.inr (by decide)) (Or.inr (by decide)) (Or.inr (by decide)) (Or.inr (by decide)) (Or.inr (by decide)) (Or.inr (by decide)) (Or.inr (by decide))).trans pf2
  have hfr : (∀ b j : Nat, (tag b ≠ 46 ∨ j ≠ 8) → (tag b ≠ 46 ∨ j ≠ 9) → (tag b ≠ 46 ∨ j ≠ 10) → (tag b ≠ 46 ∨ j ≠ 11) → (tag b ≠ 46 ∨ j ≠ 12) → (tag b ≠ 46 ∨ j ≠ 13) → (tag b ≠ 46 ∨ j ≠ 14) → (tag b ≠ 46 ∨ j ≠ 15) → fld F b j = fld Fo b j) ∧ (∀ b j : Nat, elm F b j = elm Fo b j) := ⟨fun b j n46_8 n46_9 n46_10 n46_11 n46_12 n46_13 n46_14 n46_15 => (yz15432.1 b j n46_8 n46_9 n46_10 n46_11 n46_12 n46_13 n46_14 n46_15).trans (hfr.1 b j n46_8 n46_9 n46_10 n46_11 n46_12 n46_13 n46_14 n46_15), fun b j  => (yz15432.2 b j ).trans (hfr.2 b j )⟩
  have hstk := STK.tr hstk stz15432
  have hspt := SPT.tr hspt ptz15432
  refine lv_aload_n hx hb dX13_readPart_5 rfl (lv_at hl 0 rfl) ?_
  refine lv_iload_n hx hb dX13_readPart_6 rfl (lv_at hl 2 rfl) ?_
  refine lv_iload_n hx hb dX13_readPart_7 rfl (lv_at hl 3 rfl) ?_
  refine t_cVi (n := 2) (C := RX13) (T := TX13) (N := 37) (As := [.int p2, .int p3]) (rest := []) X hT (km42_X13_readWhole l G tag L F hT.2.2.2 p0 p2 p3 x0 x1 x2 soz15432 spz15432 faz15432 m0 g0 (by omega) (by omega) mx0 gx0 pf0 mx1 gx1 pf1 mx2 gx2 pf2 (by omega) qsoz15432 (by omega) qspz15432 (by omega) qfaz15432 hkf) m0 g0 rfl rfl qw_560 qw_561 qw_562 qw_5 qw_563 ⟨rfl, by decide +kernel, by decide +kernel, by decide +kernel⟩ ⟨Nat.le_of_ble_eq_true rfl, Nat.le_of_ble_eq_true rfl⟩ hl rfl rfl (Nat.le_of_ble_eq_true rfl) dX13_readPart_8 ⟨Nat.le_of_ble_eq_true rfl, Nat.le_of_ble_eq_true rfl⟩ (fun z15433 F H locs hT hz15433 => ?_)
  obtain ⟨hz15433, yz15433, ⟨soz15433, spz15433, faz15433, qsoz15433, qspz15433, qfaz15433, rsoz15433, rspz15433, rfaz15433, stz15433, ptz15433, hkf⟩⟩ := hz15433
  have pf0 := (yz15433.1 _ 4 (Or.inr (by decide)) (Or.inr (by decide)) (Or.inr (by decide)) (Or.inr (by decide)) (Or.inr (by decide)) (Or.inr (by decide)) (Or.inr (by decide)) (Or.inr (by decide))).trans pf0
  have pf1 := (yz15433.1 _ 28 (Or.inr (by decide)) (Or.inr (by decide)) (Or.inr (by decide)) (Or.inr (by decide)) (Or.inr (by decide)) (Or.inr (by decide)) (Or.inr (by decide)) (Or.inr (by decide))).trans pf1
  have pf2 := (yz15433.1 _ 29 (Or.inr (by decide)) (Or.inr (by decide)) (Or.inr (by decide)) (Or.inr (by decide)) (Or.inr (by decide)) (Or.inr (by decide)) (Or.inr (by decide)) (Or.inr (by decide))).trans pf2
  have hfr : (∀ b j : Nat, (tag b ≠ 46 ∨ j ≠ 8) → (tag b ≠ 46 ∨ j ≠ 9) → (tag b ≠ 46 ∨ j ≠ 10) → (tag b ≠ 46 ∨ j ≠ 11) → (tag b ≠ 46 ∨ j ≠ 12) → (tag b ≠ 46 ∨ j ≠ 13) → (tag b ≠ 46 ∨ j ≠ 14) → (tag b ≠ 46 ∨ j ≠ 15) → fld F b j = fld Fo b j) ∧ (∀ b j : Nat, elm F b j = elm Fo b j) := ⟨fun b j n46_8 n46_9 n46_10 n46_11 n46_12 n46_13 n46_14 n46_15 => (yz15433.1 b j n46_8 n46_9 n46_10 n46_11 n46_12 n46_13 n46_14 n46_15).trans (hfr.1 b j n46_8 n46_9 n46_10 n46_11 n46_12 n46_13 n46_14 n46_15), fun b j  => (yz15433.2 b j ).trans (hfr.2 b j )⟩
  have hstk := STK.tr hstk stz15433
  have hspt := SPT.tr hspt ptz15433
  exact t_iret hQ X hT (⟨(by omega), hfr, ⟨soz15433, spz15433, faz15433, qsoz15433, qspz15433, qfaz15433, (by omega), (by omega), (by omega), hstk, hspt, hkf⟩⟩) (Nat.le_of_ble_eq_true rfl) (Nat.le_of_ble_eq_true rfl) dX13_readPart_11
set_option maxHeartbeats 4000000 in
set_option maxRecDepth 100000 in
theorem km44_X12_y (l : Launch) (G : KG) (tag : Nat → Nat) (L : List Nat) (F : Nat → va_E) (ho : okT G ttC tag L F) (p0 : Nat) (p1 : Int32) (x0 : Int32) (m0 : p0 ∈ L) (g0 : tag p0 = 44) (h1 : 0 ≤ p1.toInt ∧ p1.toInt ≤ 3) (hx0 : 1 ≤ x0.toInt ∧ x0.toInt ≤ 12) (pf0 : fld F p0 0 = .int x0) : TMi l yX12_y cX12_y 2 (some .int) { frames := 0, cells := 0, slots := 0, locals := 0 } G ttC tag L F [.ref p0, .int p1] (fun r F1 => F1 = F ∧ (0 ≤ r.toInt ∧ r.toInt ≤ 143)) := by
  refine t_bodyi (y := yX12_y) (cd := cX12_y) (mL := 2) (rt := (some .int)) (rm := { frames := 0, cells := 0, slots := 0, locals := 0 }) (av := [.ref p0, .int p1]) (by decide) (Nat.le_of_ble_eq_true rfl) ho ?_
  intro p e s m args below meth c ls A Q hQ X hT hl
  have hx := X.1.1
  have hb := X.1.2.1
  have hl : lv_has ls 2 [(0, .ref p0), (1, .int p1)] := hl
  refine lv_aload_n hx hb dX12_y_0 rfl (lv_at hl 0 rfl) ?_
  refine t_get (C := RX12) (T := TX12) (N := 31) X hT m0 g0 rfl rfl 21 (by decide) qw_498 inlX12 rfl dX12_y_1 (fun v15515 hv15515 ov15515 => ?_)
  obtain ⟨b15516, rfl, mb15516, gb15516⟩ := okV_r ov15515
  have gb15516 : tag b15516 = 30 := tg_of gb15516
  refine lv_iload_n hx hb dX12_y_4 rfl (lv_at hl 1 rfl) ?_
  refine t_ild X hT mb15516 gb15516 rfl (by omega) dX12_y_5 (fun z15517 vz15517 rz15517 => ?_)
  have rz15517 : 0 ≤ z15517.toInt ∧ z15517.toInt ≤ 143 := rz15517
  refine lv_aload_n hx hb dX12_y_6 rfl (lv_at hl 0 rfl) ?_
  refine t_get (C := RX12) (T := TX12) (N := 31) X hT m0 g0 rfl rfl 0 (by decide) qw_627 inlX12 rfl dX12_y_7 (fun v15518 hv15518 ov15518 => ?_)
  obtain rfl : v15518 = .int x0 := hv15518.symm.trans pf0
  refine lv_idiv hx hb dX12_y_10 (ne0_of (by omega)) ?_
  refine lv_topi (fun z15519 ez15519 => ?_)
  have rz15519 : 0 ≤ z15519.toInt ∧ z15519.toInt ≤ 143 := ar_divv ez15519 (A := 143) (by omega) (by omega)
  exact t_iret hQ X hT (⟨rfl, (by omega)⟩) (Nat.le_of_ble_eq_true rfl) (Nat.le_of_ble_eq_true rfl) dX12_y_11
set_option maxHeartbeats 4000000 in
set_option maxRecDepth 100000 in
theorem km45_X12_x (l : Launch) (G : KG) (tag : Nat → Nat) (L : List Nat) (F : Nat → va_E) (ho : okT G ttC tag L F) (p0 : Nat) (p1 : Int32) (x0 : Int32) (m0 : p0 ∈ L) (g0 : tag p0 = 44) (h1 : 0 ≤ p1.toInt ∧ p1.toInt ≤ 3) (hx0 : 1 ≤ x0.toInt ∧ x0.toInt ≤ 12) (pf0 : fld F p0 0 = .int x0) : TMi l yX12_x cX12_x 2 (some .int) { frames := 0, cells := 0, slots := 0, locals := 0 } G ttC tag L F [.ref p0, .int p1] (fun r F1 => F1 = F ∧ (0 ≤ r.toInt ∧ r.toInt ≤ 11)) := by
  refine t_bodyi (y := yX12_x) (cd := cX12_x) (mL := 2) (rt := (some .int)) (rm := { frames := 0, cells := 0, slots := 0, locals := 0 }) (av := [.ref p0, .int p1]) (by decide) (Nat.le_of_ble_eq_true rfl) ho ?_
  intro p e s m args below meth c ls A Q hQ X hT hl
  have hx := X.1.1
  have hb := X.1.2.1
  have hl : lv_has ls 2 [(0, .ref p0), (1, .int p1)] := hl
  refine lv_aload_n hx hb dX12_x_0 rfl (lv_at hl 0 rfl) ?_
  refine t_get (C := RX12) (T := TX12) (N := 31) X hT m0 g0 rfl rfl 21 (by decide) qw_498 inlX12 rfl dX12_x_1 (fun v15582 hv15582 ov15582 => ?_)
  obtain ⟨b15583, rfl, mb15583, gb15583⟩ := okV_r ov15582
  have gb15583 : tag b15583 = 30 := tg_of gb15583
  refine lv_iload_n hx hb dX12_x_4 rfl (lv_at hl 1 rfl) ?_
  refine t_ild X hT mb15583 gb15583 rfl (by omega) dX12_x_5 (fun z15584 vz15584 rz15584 => ?_)
  have rz15584 : 0 ≤ z15584.toInt ∧ z15584.toInt ≤ 143 := rz15584
  refine lv_aload_n hx hb dX12_x_6 rfl (lv_at hl 0 rfl) ?_
  refine t_get (C := RX12) (T := TX12) (N := 31) X hT m0 g0 rfl rfl 0 (by decide) qw_627 inlX12 rfl dX12_x_7 (fun v15585 hv15585 ov15585 => ?_)
  obtain rfl : v15585 = .int x0 := hv15585.symm.trans pf0
  refine lv_irem hx hb dX12_x_10 (ne0_of (by omega)) ?_
  refine lv_topi (fun z15586 ez15586 => ?_)
  have hz15586 := ar_remv ez15586 (by omega) (by omega)
  have rz15586 : 0 ≤ z15586.toInt ∧ z15586.toInt ≤ 11 := by omega
  exact t_iret hQ X hT (⟨rfl, (by omega)⟩) (Nat.le_of_ble_eq_true rfl) (Nat.le_of_ble_eq_true rfl) dX12_x_11
set_option maxHeartbeats 4000000 in
set_option maxRecDepth 100000 in
theorem km46_X12_far (l : Launch) (G : KG) (tag : Nat → Nat) (L : List Nat) (F : Nat → va_E) (ho : okT G ttC tag L F) (p0 : Nat) (p1 : Int32) (p2 : Int32) (p3 : Int32) (x0 : Int32) (m0 : p0 ∈ L) (g0 : tag p0 = 44) (h1 : 0 ≤ p1.toInt ∧ p1.toInt ≤ 3) (hx0 : 1 ≤ x0.toInt ∧ x0.toInt ≤ 12) (pf0 : fld F p0 0 = .int x0) : TMi l yX12_far cX12_far 6 (some .int) { frames := 1, cells := 0, slots := 0, locals := 21 } G ttC tag L F [.ref p0, .int p1, .int p2, .int p3] (fun r F1 => F1 = F ∧ ((-2147483648) ≤ r.toInt ∧ r.toInt ≤ 2147483647)) := by
  refine t_bodyi (y := yX12_far) (cd := cX12_far) (mL := 6) (rt := (some .int)) (rm := { frames := 1, cells := 0, slots := 0, locals := 21 }) (av := [.ref p0, .int p1, .int p2, .int p3]) (by decide) (Nat.le_of_ble_eq_true rfl) ho ?_
  intro p e s m args below meth c ls A Q hQ X hT hl
  have hx := X.1.1
  have hb := X.1.2.1
  have hl : lv_has ls 6 [(0, .ref p0), (1, .int p1), (2, .int p2), (3, .int p3)] := hl
  have rp2 := rg_all p2
  have rp3 := rg_all p3
  have K54 : ∀ (z15819 : Int32) (z15820 : Int32) (z15821 : Int32) (H : Heap) (locs : List Loc) (ls : Array Slot), (1 ≤ z15821.toInt ∧ z15821.toInt ≤ 12) → TH G ttC A s tag L F H locs → (fld F p0 0 = .int z15821) → lv_has ls 6 [(0, .ref p0), (1, .int p1), (2, .int p2), (3, .int p3), (4, .int z15819)] → W p l e { frames := 1, cells := 0, slots := 0, locals := 21 } s m args below meth c H locs 0 0 Q (F0 m 54 ls [.int z15820]) := by
    intro z15819 z15820 z15821 H locs ls rz15821 hT qz15821 hl
    have rz15819 := rg_all z15819
    have rz15820 := rg_all z15820
    refine lv_istore (lv' := [(5, .int z15820), (0, .ref p0), (1, .int p1), (2, .int p2), (3, .int p3), (4, .int z15819)]) hx hb dX12_far_54 hl (by decide) rfl (fun ls hl => ?_)
    refine lv_iload hx hb dX12_far_56 (lv_at hl 5 rfl) ?_
    refine lv_iload hx hb dX12_far_58 (lv_at hl 0 rfl) ?_
    refine lv_icmp_le (tgt := 68) hx hb dX12_far_60 (by decide) (fun c15822 => ?_) (fun c15822 => ?_)
    · have w15823 := cv_le (rfl : z15819.toInt = z15819.toInt) (rfl : z15820.toInt = z15820.toInt) c15822
      refine lv_iload hx hb dX12_far_68 (lv_at hl 0 rfl) ?_
      exact t_iret hQ X hT (⟨rfl, rg_all _⟩) (Nat.le_of_ble_eq_true rfl) (Nat.le_of_ble_eq_true rfl) dX12_far_70
    · have w15824 := cv_nle (rfl : z15819.toInt = z15819.toInt) (rfl : z15820.toInt = z15820.toInt) c15822
      refine lv_iload hx hb dX12_far_63 (lv_at hl 5 rfl) ?_
      refine lv_goto (tgt := 70) hx hb dX12_far_65 (by decide) ?_
      exact t_iret hQ X hT (⟨rfl, rg_all _⟩) (Nat.le_of_ble_eq_true rfl) (Nat.le_of_ble_eq_true rfl) dX12_far_70
  have K26 : ∀ (z15825 : Int32) (z15826 : Int32) (H : Heap) (locs : List Loc) (ls : Array Slot), (1 ≤ z15826.toInt ∧ z15826.toInt ≤ 12) → TH G ttC A s tag L F H locs → (fld F p0 0 = .int z15826) → lv_has ls 6 [(0, .ref p0), (1, .int p1), (2, .int p2), (3, .int p3)] → W p l e { frames := 1, cells := 0, slots := 0, locals := 21 } s m args below meth c H locs 0 0 Q (F0 m 26 ls [.int z15825]) := by
    intro z15825 z15826 H locs ls rz15826 hT qz15826 hl
    have rz15825 := rg_all z15825
    refine lv_istore (lv' := [(4, .int z15825), (0, .ref p0), (1, .int p1), (2, .int p2), (3, .int p3)]) hx hb dX12_far_26 hl (by decide) rfl (fun ls hl => ?_)
    refine lv_iload_n hx hb dX12_far_28 rfl (lv_at hl 4 rfl) ?_
    refine lv_aload_n hx hb dX12_far_29 rfl (lv_at hl 1 rfl) ?_
    refine lv_iload_n hx hb dX12_far_30 rfl (lv_at hl 2 rfl) ?_
    refine t_cVi (n := 1) (C := RX12) (T := TX12) (N := 31) (As := [.int p1]) (rest := [.int p3]) X hT (km44_X12_y l G tag L F hT.2.2.2 p0 p1 z15826 m0 g0 (by omega) (by omega) qz15826) m0 g0 rfl rfl qw_628 qw_629 qw_630 qw_476 qw_631 ⟨rfl, by decide +kernel, by decide +kernel, by decide +kernel⟩ ⟨Nat.le_of_ble_eq_true rfl, Nat.le_of_ble_eq_true rfl⟩ hl rfl rfl (Nat.le_of_ble_eq_true rfl) dX12_far_31 ⟨Nat.le_of_ble_eq_true rfl, Nat.le_of_ble_eq_true rfl⟩ (fun z15827 F9 H locs hT hz15827 => ?_)
    obtain ⟨fz15827, hz15827⟩ := hz15827
    rw [fz15827] at hT
    refine lv_icmp_le (tgt := 47) hx hb dX12_far_34 (by decide) (fun c15828 => ?_) (fun c15828 => ?_)
    · have w15829 := cv_le (rfl : p3.toInt = p3.toInt) (rfl : z15827.toInt = z15827.toInt) c15828
      refine lv_aload_n hx hb dX12_far_47 rfl (lv_at hl 1 rfl) ?_
      refine lv_iload_n hx hb dX12_far_48 rfl (lv_at hl 2 rfl) ?_
      refine t_cVi (n := 1) (C := RX12) (T := TX12) (N := 31) (As := [.int p1]) (rest := []) X hT (km44_X12_y l G tag L F hT.2.2.2 p0 p1 z15826 m0 g0 (by omega) (by omega) qz15826) m0 g0 rfl rfl qw_628 qw_629 qw_630 qw_476 qw_631 ⟨rfl, by decide +kernel, by decide +kernel, by decide +kernel⟩ ⟨Nat.le_of_ble_eq_true rfl, Nat.le_of_ble_eq_true rfl⟩ hl rfl rfl (Nat.le_of_ble_eq_true rfl) dX12_far_49 ⟨Nat.le_of_ble_eq_true rfl, Nat.le_of_ble_eq_true rfl⟩ (fun z15830 F9 H locs hT hz15830 => ?_)
      obtain ⟨fz15830, hz15830⟩ := hz15830
      rw [fz15830] at hT
      refine lv_iload_n hx hb dX12_far_52 rfl (lv_at hl 4 rfl) ?_
      refine lv_isub hx hb dX12_far_53 ?_
      refine lv_topi (fun z15831 ez15831 => ?_)
      have rz15831 := rg_all z15831
      exact K54 z15825 z15831 z15826 _ _ _ (by omega) hT qz15826 (lv_sub hl [1, 2, 3, 4, 0] rfl)
    · have w15832 := cv_nle (rfl : p3.toInt = p3.toInt) (rfl : z15827.toInt = z15827.toInt) c15828
      refine lv_iload_n hx hb dX12_far_37 rfl (lv_at hl 4 rfl) ?_
      refine lv_aload_n hx hb dX12_far_38 rfl (lv_at hl 1 rfl) ?_
      refine lv_iload_n hx hb dX12_far_39 rfl (lv_at hl 2 rfl) ?_
      refine t_cVi (n := 1) (C := RX12) (T := TX12) (N := 31) (As := [.int p1]) (rest := [.int p3]) X hT (km44_X12_y l G tag L F hT.2.2.2 p0 p1 z15826 m0 g0 (by omega) (by omega) qz15826) m0 g0 rfl rfl qw_628 qw_629 qw_630 qw_476 qw_631 ⟨rfl, by decide +kernel, by decide +kernel, by decide +kernel⟩ ⟨Nat.le_of_ble_eq_true rfl, Nat.le_of_ble_eq_true rfl⟩ hl rfl rfl (Nat.le_of_ble_eq_true rfl) dX12_far_40 ⟨Nat.le_of_ble_eq_true rfl, Nat.le_of_ble_eq_true rfl⟩ (fun z15833 F9 H locs hT hz15833 => ?_)
      obtain ⟨fz15833, hz15833⟩ := hz15833
      rw [fz15833] at hT
      refine lv_isub hx hb dX12_far_43 ?_
      refine lv_topi (fun z15834 ez15834 => ?_)
      have hz15834 : z15834.toInt = p3.toInt - z15833.toInt := ar_sub ez15834 (rfl : p3.toInt = p3.toInt) (rfl : z15833.toInt = z15833.toInt) (by omega) (by omega)
      have rz15834 : (-142) ≤ z15834.toInt ∧ z15834.toInt ≤ 2147483647 := by omega
      refine lv_goto (tgt := 54) hx hb dX12_far_44 (by decide) ?_
      exact K54 z15825 z15834 z15826 _ _ _ (by omega) hT qz15826 (lv_sub hl [1, 2, 3, 4, 0] rfl)
  refine lv_iload_n hx hb dX12_far_0 rfl (lv_at hl 2 rfl) ?_
  refine lv_aload_n hx hb dX12_far_1 rfl (lv_at hl 0 rfl) ?_
  refine lv_iload_n hx hb dX12_far_2 rfl (lv_at hl 1 rfl) ?_
  refine t_cVi (n := 1) (C := RX12) (T := TX12) (N := 31) (As := [.int p1]) (rest := [.int p2]) X hT (km45_X12_x l G tag L F hT.2.2.2 p0 p1 x0 m0 g0 (by omega) (by omega) pf0) m0 g0 rfl rfl qw_623 qw_624 qw_625 qw_476 qw_626 ⟨rfl, by decide +kernel, by decide +kernel, by decide +kernel⟩ ⟨Nat.le_of_ble_eq_true rfl, Nat.le_of_ble_eq_true rfl⟩ hl rfl rfl (Nat.le_of_ble_eq_true rfl) dX12_far_3 ⟨Nat.le_of_ble_eq_true rfl, Nat.le_of_ble_eq_true rfl⟩ (fun z15835 F9 H locs hT hz15835 => ?_)
  obtain ⟨fz15835, hz15835⟩ := hz15835
  rw [fz15835] at hT
  refine lv_icmp_le (tgt := 19) hx hb dX12_far_6 (by decide) (fun c15836 => ?_) (fun c15836 => ?_)
  · have w15837 := cv_le (rfl : p2.toInt = p2.toInt) (rfl : z15835.toInt = z15835.toInt) c15836
    refine lv_aload_n hx hb dX12_far_19 rfl (lv_at hl 0 rfl) ?_
    refine lv_iload_n hx hb dX12_far_20 rfl (lv_at hl 1 rfl) ?_
    refine t_cVi (n := 1) (C := RX12) (T := TX12) (N := 31) (As := [.int p1]) (rest := []) X hT (km45_X12_x l G tag L F hT.2.2.2 p0 p1 x0 m0 g0 (by omega) (by omega) pf0) m0 g0 rfl rfl qw_623 qw_624 qw_625 qw_476 qw_626 ⟨rfl, by decide +kernel, by decide +kernel, by decide +kernel⟩ ⟨Nat.le_of_ble_eq_true rfl, Nat.le_of_ble_eq_true rfl⟩ hl rfl rfl (Nat.le_of_ble_eq_true rfl) dX12_far_21 ⟨Nat.le_of_ble_eq_true rfl, Nat.le_of_ble_eq_true rfl⟩ (fun z15838 F9 H locs hT hz15838 => ?_)
    obtain ⟨fz15838, hz15838⟩ := hz15838
    rw [fz15838] at hT
    refine lv_iload_n hx hb dX12_far_24 rfl (lv_at hl 2 rfl) ?_
    refine lv_isub hx hb dX12_far_25 ?_
    refine lv_topi (fun z15839 ez15839 => ?_)
    have rz15839 := rg_all z15839
    exact K26 z15839 x0 _ _ _ (by omega) hT pf0 (lv_sub hl [0, 1, 2, 3] rfl)
  · have w15840 := cv_nle (rfl : p2.toInt = p2.toInt) (rfl : z15835.toInt = z15835.toInt) c15836
    refine lv_iload_n hx hb dX12_far_9 rfl (lv_at hl 2 rfl) ?_
    refine lv_aload_n hx hb dX12_far_10 rfl (lv_at hl 0 rfl) ?_
    refine lv_iload_n hx hb dX12_far_11 rfl (lv_at hl 1 rfl) ?_
    refine t_cVi (n := 1) (C := RX12) (T := TX12) (N := 31) (As := [.int p1]) (rest := [.int p2]) X hT (km45_X12_x l G tag L F hT.2.2.2 p0 p1 x0 m0 g0 (by omega) (by omega) pf0) m0 g0 rfl rfl qw_623 qw_624 qw_625 qw_476 qw_626 ⟨rfl, by decide +kernel, by decide +kernel, by decide +kernel⟩ ⟨Nat.le_of_ble_eq_true rfl, Nat.le_of_ble_eq_true rfl⟩ hl rfl rfl (Nat.le_of_ble_eq_true rfl) dX12_far_12 ⟨Nat.le_of_ble_eq_true rfl, Nat.le_of_ble_eq_true rfl⟩ (fun z15841 F9 H locs hT hz15841 => ?_)
    obtain ⟨fz15841, hz15841⟩ := hz15841
    rw [fz15841] at hT
    refine lv_isub hx hb dX12_far_15 ?_
    refine lv_topi (fun z15842 ez15842 => ?_)
    have hz15842 : z15842.toInt = p2.toInt - z15841.toInt := ar_sub ez15842 (rfl : p2.toInt = p2.toInt) (rfl : z15841.toInt = z15841.toInt) (by omega) (by omega)
    have rz15842 : (-10) ≤ z15842.toInt ∧ z15842.toInt ≤ 2147483647 := by omega
    refine lv_goto (tgt := 26) hx hb dX12_far_16 (by decide) ?_
    exact K26 z15842 x0 _ _ _ (by omega) hT pf0 (lv_sub hl [0, 1, 2, 3] rfl)
set_option maxHeartbeats 4000000 in
set_option maxRecDepth 100000 in
theorem km47_X12_isLand (l : Launch) (G : KG) (tag : Nat → Nat) (L : List Nat) (F : Nat → va_E) (ho : okT G ttC tag L F) (p0 : Nat) (p1 : Int32) (p2 : Int32) (m0 : p0 ∈ L) (g0 : tag p0 = 44) : TMi l yX12_isLand cX12_isLand 3 (some .boolean) { frames := 1, cells := 0, slots := 0, locals := 22 } G ttC tag L F [.ref p0, .int p1, .int p2] (fun r F1 => F1 = F ∧ (0 ≤ r.toInt ∧ r.toInt ≤ 1)) := by
  refine t_bodyi (y := yX12_isLand) (cd := cX12_isLand) (mL := 3) (rt := (some .boolean)) (rm := { frames := 1, cells := 0, slots := 0, locals := 22 }) (av := [.ref p0, .int p1, .int p2]) (by decide) (Nat.le_of_ble_eq_true rfl) ho ?_
  intro p e s m args below meth c ls A Q hQ X hT hl
  have hx := X.1.1
  have hb := X.1.2.1
  have hl : lv_has ls 3 [(0, .ref p0), (1, .int p1), (2, .int p2)] := hl
  have rp1 := rg_all p1
  have rp2 := rg_all p2
  refine lv_iload_n hx hb dX12_isLand_0 rfl (lv_at hl 1 rfl) ?_
  refine lv_iconst (v := 0) hx hb dX12_isLand_1 (by decide) ?_
  refine lv_aload_n hx hb dX12_isLand_2 rfl (lv_at hl 0 rfl) ?_
  refine t_get (C := RX12) (T := TX12) (N := 31) X hT m0 g0 rfl rfl 0 (by decide) qw_627 inlX12 rfl dX12_isLand_3 (fun v16143 hv16143 ov16143 => ?_)
  obtain ⟨z16144, rfl, rz16144⟩ := okV_i ov16143
  refine lv_iconst (v := 1) hx hb dX12_isLand_6 (by decide) ?_
  refine lv_isub hx hb dX12_isLand_7 ?_
  refine lv_topi (fun z16145 ez16145 => ?_)
  have hz16145 : z16145.toInt = z16144.toInt - 1 := ar_sub ez16145 (rfl : z16144.toInt = z16144.toInt) (by decide : (1 : Int32).toInt = 1) (by omega) (by omega)
  have rz16145 : (-1) ≤ z16145.toInt ∧ z16145.toInt ≤ 11 := by omega
  refine t_cNi (n := 3) (host := "YearSkinsModel") (As := [.int p1, .int 0, .int z16145]) (rest := []) X hT (km19_X13_within l G tag L F hT.2.2.2 p1 0 z16145 ) (List.mem_of_getElem? (i := 9) rfl) qw_569 qw_5 qw_570 ⟨by decide +kernel, by decide +kernel, by decide +kernel⟩ ⟨Nat.le_of_ble_eq_true rfl, Nat.le_of_ble_eq_true rfl⟩ hl rfl rfl (Nat.le_of_ble_eq_true rfl) dX12_isLand_8 ⟨Nat.le_of_ble_eq_true rfl, Nat.le_of_ble_eq_true rfl⟩ (fun z16146 F9 H locs hT hz16146 => ?_)
  obtain ⟨fz16146, hz16146, xz16146_0⟩ := hz16146
  rw [fz16146] at hT
  have k16147 : (0 : Int32).toInt = 0 := by decide
  refine lv_if_eq (tgt := 48) hx hb dX12_isLand_11 (by decide) (fun c16148 => ?_) (fun c16148 => ?_)
  · have w16149 := cv_eq (rfl : z16146.toInt = z16146.toInt) (by decide : (0 : Int32).toInt = 0) c16148
    refine lv_iconst (v := 0) hx hb dX12_isLand_48 (by decide) ?_
    have k16150 : (0 : Int32).toInt = 0 := by decide
    exact t_zret hQ X hT (by decide) (⟨rfl, (by decide)⟩) (Nat.le_of_ble_eq_true rfl) (Nat.le_of_ble_eq_true rfl) dX12_isLand_49
  · have w16151 := cv_ne (rfl : z16146.toInt = z16146.toInt) (by decide : (0 : Int32).toInt = 0) c16148
    have w16152 := xz16146_0 (by omega)
    refine lv_iload_n hx hb dX12_isLand_14 rfl (lv_at hl 2 rfl) ?_
    refine lv_iconst (v := 0) hx hb dX12_isLand_15 (by decide) ?_
    refine lv_aload_n hx hb dX12_isLand_16 rfl (lv_at hl 0 rfl) ?_
    refine t_get (C := RX12) (T := TX12) (N := 31) X hT m0 g0 rfl rfl 1 (by decide) qw_653 inlX12 rfl dX12_isLand_17 (fun v16153 hv16153 ov16153 => ?_)
    obtain ⟨z16154, rfl, rz16154⟩ := okV_i ov16153
    refine lv_iconst (v := 1) hx hb dX12_isLand_20 (by decide) ?_
    refine lv_isub hx hb dX12_isLand_21 ?_
    refine lv_topi (fun z16155 ez16155 => ?_)
    have hz16155 : z16155.toInt = z16154.toInt - 1 := ar_sub ez16155 (rfl : z16154.toInt = z16154.toInt) (by decide : (1 : Int32).toInt = 1) (by omega) (by omega)
    have rz16155 : (-1) ≤ z16155.toInt ∧ z16155.toInt ≤ 11 := by omega
    refine t_cNi (n := 3) (host := "YearSkinsModel") (As := [.int p2, .int 0, .int z16155]) (rest := []) X hT (km19_X13_within l G tag L F hT.2.2.2 p2 0 z16155 ) (List.mem_of_getElem? (i := 9) rfl) qw_569 qw_5 qw_570 ⟨by decide +kernel, by decide +kernel, by decide +kernel⟩ ⟨Nat.le_of_ble_eq_true rfl, Nat.le_of_ble_eq_true rfl⟩ hl rfl rfl (Nat.le_of_ble_eq_true rfl) dX12_isLand_22 ⟨Nat.le_of_ble_eq_true rfl, Nat.le_of_ble_eq_true rfl⟩ (fun z16156 F9 H locs hT hz16156 => ?_)
    obtain ⟨fz16156, hz16156, xz16156_0⟩ := hz16156
    rw [fz16156] at hT
    have k16157 : (0 : Int32).toInt = 0 := by decide
    refine lv_if_eq (tgt := 48) hx hb dX12_isLand_25 (by decide) (fun c16158 => ?_) (fun c16158 => ?_)
    · have w16159 := cv_eq (rfl : z16156.toInt = z16156.toInt) (by decide : (0 : Int32).toInt = 0) c16158
      refine lv_iconst (v := 0) hx hb dX12_isLand_48 (by decide) ?_
      have k16160 : (0 : Int32).toInt = 0 := by decide
      exact t_zret hQ X hT (by decide) (⟨rfl, (by decide)⟩) (Nat.le_of_ble_eq_true rfl) (Nat.le_of_ble_eq_true rfl) dX12_isLand_49
    · have w16161 := cv_ne (rfl : z16156.toInt = z16156.toInt) (by decide : (0 : Int32).toInt = 0) c16158
      have w16162 := xz16156_0 (by omega)
      refine lv_aload_n hx hb dX12_isLand_28 rfl (lv_at hl 0 rfl) ?_
      refine t_get (C := RX12) (T := TX12) (N := 31) X hT m0 g0 rfl rfl 15 (by decide) qw_492 inlX12 rfl dX12_isLand_29 (fun v16163 hv16163 ov16163 => ?_)
      obtain ⟨b16164, rfl, mb16164, gb16164⟩ := okV_r ov16163
      have gb16164 : tag b16164 = 28 := tg_of gb16164
      refine lv_aload_n hx hb dX12_isLand_32 rfl (lv_at hl 0 rfl) ?_
      refine t_get (C := RX12) (T := TX12) (N := 31) X hT m0 g0 rfl rfl 0 (by decide) qw_627 inlX12 rfl dX12_isLand_33 (fun v16165 hv16165 ov16165 => ?_)
      obtain rfl : v16165 = .int z16144 := hv16165.symm.trans hv16143
      refine lv_iload_n hx hb dX12_isLand_36 rfl (lv_at hl 2 rfl) ?_
      refine lv_imul hx hb dX12_isLand_37 ?_
      refine lv_topi (fun z16166 ez16166 => ?_)
      have rz16166 : 0 ≤ z16166.toInt ∧ z16166.toInt ≤ 132 := ar_mulb ez16166 (A := 12) (B := 11) (by omega) (by omega) (by decide) (by decide)
      refine lv_iload_n hx hb dX12_isLand_38 rfl (lv_at hl 1 rfl) ?_
      refine lv_iadd hx hb dX12_isLand_39 ?_
      refine lv_topi (fun z16167 ez16167 => ?_)
      have hz16167 : z16167.toInt = z16166.toInt + p1.toInt := ar_add ez16167 (rfl : z16166.toInt = z16166.toInt) (rfl : p1.toInt = p1.toInt) (by omega) (by omega)
      have rz16167 : 0 ≤ z16167.toInt ∧ z16167.toInt ≤ 143 := by omega
      refine t_zld X hT mb16164 gb16164 rfl (by omega) dX12_isLand_40 (fun z16168 vz16168 rz16168 => ?_)
      have rz16168 : 0 ≤ z16168.toInt ∧ z16168.toInt ≤ 1 := rz16168
      refine lv_if_ne (tgt := 48) hx hb dX12_isLand_41 (by decide) (fun c16169 => ?_) (fun c16169 => ?_)
      · have w16170 := cv_ne (rfl : z16168.toInt = z16168.toInt) (by decide : (0 : Int32).toInt = 0) c16169
        refine lv_iconst (v := 0) hx hb dX12_isLand_48 (by decide) ?_
        have k16171 : (0 : Int32).toInt = 0 := by decide
        exact t_zret hQ X hT (by decide) (⟨rfl, (by decide)⟩) (Nat.le_of_ble_eq_true rfl) (Nat.le_of_ble_eq_true rfl) dX12_isLand_49
      · have w16172 := cv_eq (rfl : z16168.toInt = z16168.toInt) (by decide : (0 : Int32).toInt = 0) c16169
        refine lv_iconst (v := 1) hx hb dX12_isLand_44 (by decide) ?_
        refine lv_goto (tgt := 49) hx hb dX12_isLand_45 (by decide) ?_
        have k16173 : (1 : Int32).toInt = 1 := by decide
        exact t_zret hQ X hT (by decide) (⟨rfl, (by decide)⟩) (Nat.le_of_ble_eq_true rfl) (Nat.le_of_ble_eq_true rfl) dX12_isLand_49
set_option maxHeartbeats 4000000 in
set_option maxRecDepth 100000 in
theorem km48_X13_fitsIn (l : Launch) (G : KG) (tag : Nat → Nat) (L : List Nat) (F : Nat → va_E) (ho : okT G ttC tag L F) (p0 : Nat) (p1 : Nat) (p2 : Int32) (x0 : Int32) (m0 : p0 ∈ L) (g0 : tag p0 = 44) (m1 : p1 ∈ L) (g1 : tag p1 = 37) (h2 : 0 ≤ p2.toInt ∧ p2.toInt ≤ 3) (hx0 : 1 ≤ x0.toInt ∧ x0.toInt ≤ 12) (pf0 : fld F p0 0 = .int x0) : TMi l yX13_fitsIn cX13_fitsIn 7 (some .boolean) { frames := 2, cells := 0, slots := 0, locals := 46 } G ttC tag L F [.ref p0, .ref p1, .int p2] (fun r F1 => F1 = F ∧ (0 ≤ r.toInt ∧ r.toInt ≤ 1)) := by
  refine t_bodyi (y := yX13_fitsIn) (cd := cX13_fitsIn) (mL := 7) (rt := (some .boolean)) (rm := { frames := 2, cells := 0, slots := 0, locals := 46 }) (av := [.ref p0, .ref p1, .int p2]) (by decide) (Nat.le_of_ble_eq_true rfl) ho ?_
  intro p e s m args below meth c ls A Q hQ X hT hl
  have hx := X.1.1
  have hb := X.1.2.1
  have hl : lv_has ls 7 [(0, .ref p0), (1, .ref p1), (2, .int p2)] := hl
  have K17 : ∀ (n : Nat) (z17129 : Int32) (z17130 : Int32) (z17131 : Int32) (z17132 : Int32) (H : Heap) (locs : List Loc) (ls : Array Slot), (193 - z17130.toInt < (n : Int)) → (1 ≤ z17129.toInt ∧ z17129.toInt ≤ 7) → ((-7) ≤ z17130.toInt ∧ z17130.toInt ≤ 193) → (1 ≤ z17131.toInt ∧ z17131.toInt ≤ 12) → (0 ≤ z17132.toInt ∧ z17132.toInt ≤ 6) → TH G ttC A s tag L F H locs → (fld F p0 0 = .int z17131) → (elm F p1 p2.toNatClampNeg = z17132) → lv_has ls 7 [(0, .ref p0), (1, .ref p1), (2, .int p2), (3, .int z17129), (4, .int z17130)] → W p l e { frames := 2, cells := 0, slots := 0, locals := 46 } s m args below meth c H locs 0 0 Q (F0 m 17 ls []) := by
    intro n
    induction n with
    | zero =>
      intro z17129 z17130 z17131 z17132 H locs ls hn rz17129 rz17130 rz17131 rz17132 hT qz17131 qz17132 hl
      exfalso
      omega
    | succ n ih17 =>
      intro z17129 z17130 z17131 z17132 H locs ls hn rz17129 rz17130 rz17131 rz17132 hT qz17131 qz17132 hl
      have K38 : ∀ (n : Nat) (z17134 : Int32) (z17135 : Int32) (z17136 : Int32) (H : Heap) (locs : List Loc) (ls : Array Slot), (20 - z17134.toInt < (n : Int)) → ((-7) ≤ z17134.toInt ∧ z17134.toInt ≤ 20) → (1 ≤ z17135.toInt ∧ z17135.toInt ≤ 12) → (0 ≤ z17136.toInt ∧ z17136.toInt ≤ 6) → ((-7) ≤ z17130.toInt ∧ z17130.toInt ≤ 192) → TH G ttC A s tag L F H locs → (fld F p0 0 = .int z17135) → (elm F p1 p2.toNatClampNeg = z17136) → lv_has ls 7 [(0, .ref p0), (1, .ref p1), (2, .int p2), (3, .int z17129), (4, .int z17130), (5, .int z17134)] → W p l e { frames := 2, cells := 0, slots := 0, locals := 46 } s m args below meth c H locs 0 0 Q (F0 m 38 ls []) := by
        intro n
        induction n with
        | zero =>
          intro z17134 z17135 z17136 H locs ls hn rz17134 rz17135 rz17136 r9s17133 hT qz17135 qz17136 hl
          exfalso
          omega
        | succ n ih38 =>
          intro z17134 z17135 z17136 H locs ls hn rz17134 rz17135 rz17136 r9s17133 hT qz17135 qz17136 hl
          have K162 : ∀ (z17138 : Int32) (z17139 : Int32) (H : Heap) (locs : List Loc) (ls : Array Slot), (1 ≤ z17138.toInt ∧ z17138.toInt ≤ 12) → (0 ≤ z17139.toInt ∧ z17139.toInt ≤ 6) → ((-7) ≤ z17134.toInt ∧ z17134.toInt ≤ 19) → TH G ttC A s tag L F H locs → (fld F p0 0 = .int z17138) → (elm F p1 p2.toNatClampNeg = z17139) → lv_has ls 7 [(0, .ref p0), (1, .ref p1), (2, .int p2), (3, .int z17129), (4, .int z17130), (5, .int z17134)] → W p l e { frames := 2, cells := 0, slots := 0, locals := 46 } s m args below meth c H locs 0 0 Q (F0 m 162 ls []) := by
            intro z17138 z17139 H locs ls rz17138 rz17139 r9s17137 hT qz17138 qz17139 hl
            obtain ⟨z17140, ez17140⟩ : ∃ y : Int32, y = z17134 + 1 := ⟨_, rfl⟩
            have hz17140 : z17140.toInt = z17134.toInt + 1 := ar_add ez17140 rfl (by decide : (1 : Int32).toInt = 1) (by omega) (by omega)
            refine lv_iinc (v := z17140) (lv' := [(5, .int z17140), (0, .ref p0), (1, .ref p1), (2, .int p2), (3, .int z17129), (4, .int z17130)]) hx hb dX13_fitsIn_162 hl (k := 5) rfl (by rw [ez17140]; rfl) (by decide) rfl (fun ls hl => ?_)
            refine lv_goto (tgt := 38) hx hb dX13_fitsIn_165 (by decide) ?_
            exact ih38 z17140 z17138 z17139 _ _ _ (by omega) (by omega) (by omega) (by omega) (by omega) hT qz17138 qz17139 (lv_sub hl [1, 2, 3, 4, 5, 0] rfl)
          have K82 : ∀ (n : Nat) (z17142 : Int32) (z17143 : Int32) (z17144 : Int32) (H : Heap) (locs : List Loc) (ls : Array Slot), (4 - z17142.toInt < (n : Int)) → (0 ≤ z17142.toInt ∧ z17142.toInt ≤ 4) → (1 ≤ z17143.toInt ∧ z17143.toInt ≤ 12) → (0 ≤ z17144.toInt ∧ z17144.toInt ≤ 6) → ((-7) ≤ z17134.toInt ∧ z17134.toInt ≤ 19) → TH G ttC A s tag L F H locs → (fld F p0 0 = .int z17143) → (elm F p1 p2.toNatClampNeg = z17144) → lv_has ls 7 [(0, .ref p0), (1, .ref p1), (2, .int p2), (3, .int z17129), (4, .int z17130), (5, .int z17134), (6, .int z17142)] → W p l e { frames := 2, cells := 0, slots := 0, locals := 46 } s m args below meth c H locs 0 0 Q (F0 m 82 ls []) := by
            intro n
            induction n with
            | zero =>
              intro z17142 z17143 z17144 H locs ls hn rz17142 rz17143 rz17144 r9s17141 hT qz17143 qz17144 hl
              exfalso
              omega
            | succ n ih82 =>
              intro z17142 z17143 z17144 H locs ls hn rz17142 rz17143 rz17144 r9s17141 hT qz17143 qz17144 hl
              have K156 : ∀ (z17146 : Int32) (z17147 : Int32) (z17148 : Int32) (H : Heap) (locs : List Loc) (ls : Array Slot), (1 ≤ z17146.toInt ∧ z17146.toInt ≤ 12) → (0 ≤ z17147.toInt ∧ z17147.toInt ≤ 6) → (1 ≤ z17148.toInt ∧ z17148.toInt ≤ 4) → (0 ≤ z17142.toInt ∧ z17142.toInt ≤ 3) → TH G ttC A s tag L F H locs → (fld F p0 0 = .int z17146) → (elm F p1 p2.toNatClampNeg = z17147) → (fld F p0 8 = .int z17148) → lv_has ls 7 [(0, .ref p0), (1, .ref p1), (2, .int p2), (3, .int z17129), (4, .int z17130), (5, .int z17134), (6, .int z17142)] → W p l e { frames := 2, cells := 0, slots := 0, locals := 46 } s m args below meth c H locs 0 0 Q (F0 m 156 ls []) := by
                intro z17146 z17147 z17148 H locs ls rz17146 rz17147 rz17148 r9s17145 hT qz17146 qz17147 qz17148 hl
                obtain ⟨z17149, ez17149⟩ : ∃ y : Int32, y = z17142 + 1 := ⟨_, rfl⟩
                have hz17149 : z17149.toInt = z17142.toInt + 1 := ar_add ez17149 rfl (by decide : (1 : Int32).toInt = 1) (by omega) (by omega)
                refine lv_iinc (v := z17149) (lv' := [(6, .int z17149), (0, .ref p0), (1, .ref p1), (2, .int p2), (3, .int z17129), (4, .int z17130), (5, .int z17134)]) hx hb dX13_fitsIn_156 hl (k := 6) rfl (by rw [ez17149]; rfl) (by decide) rfl (fun ls hl => ?_)
                refine lv_goto (tgt := 82) hx hb dX13_fitsIn_159 (by decide) ?_
                exact ih82 z17149 z17146 z17147 _ _ _ (by omega) (by omega) (by omega) (by omega) (by omega) hT qz17146 qz17147 (lv_sub hl [1, 2, 3, 4, 5, 6, 0] rfl)
              refine lv_iload hx hb dX13_fitsIn_82 (lv_at hl 6 rfl) ?_
              refine lv_aload_n hx hb dX13_fitsIn_84 rfl (lv_at hl 0 rfl) ?_
              refine t_getN (C := RX12) (T := TX12) (N := 31) X hT m0 g0 rfl rfl 8 (by decide) (List.mem_of_getElem? (i := 12) rfl) inlX12 rfl dX13_fitsIn_85 (fun v17150 hv17150 ov17150 => ?_)
              obtain ⟨z17151, rfl, rz17151⟩ := okV_i ov17150
              refine lv_icmp_ge (tgt := 162) hx hb dX13_fitsIn_88 (by decide) (fun c17152 => ?_) (fun c17152 => ?_)
              · have w17153 := cv_le (rfl : z17151.toInt = z17151.toInt) (rfl : z17142.toInt = z17142.toInt) c17152
                exact K162 z17143 z17144 _ _ _ (by omega) (by omega) (by omega) hT qz17143 qz17144 (lv_sub hl [0, 1, 2, 3, 4, 5] rfl)
              · have w17154 := cv_nle (rfl : z17151.toInt = z17151.toInt) (rfl : z17142.toInt = z17142.toInt) c17152
                refine lv_iload hx hb dX13_fitsIn_91 (lv_at hl 6 rfl) ?_
                refine lv_iload_n hx hb dX13_fitsIn_93 rfl (lv_at hl 2 rfl) ?_
                refine lv_icmp_eq (tgt := 156) hx hb dX13_fitsIn_94 (by decide) (fun c17155 => ?_) (fun c17155 => ?_)
                · have w17156 := cv_eq (rfl : z17142.toInt = z17142.toInt) (rfl : p2.toInt = p2.toInt) c17155
                  exact K156 z17143 z17144 z17151 _ _ _ (by omega) (by omega) (by omega) (by omega) hT qz17143 qz17144 hv17150 (lv_sub hl [0, 1, 2, 3, 4, 5, 6] rfl)
                · have w17157 := cv_ne (rfl : z17142.toInt = z17142.toInt) (rfl : p2.toInt = p2.toInt) c17155
                  refine lv_aload_n hx hb dX13_fitsIn_97 rfl (lv_at hl 0 rfl) ?_
                  refine lv_iload hx hb dX13_fitsIn_98 (lv_at hl 6 rfl) ?_
                  refine lv_iload hx hb dX13_fitsIn_100 (lv_at hl 5 rfl) ?_
                  refine lv_iload hx hb dX13_fitsIn_102 (lv_at hl 4 rfl) ?_
                  refine t_cVi (n := 3) (C := RX12) (T := TX12) (N := 31) (As := [.int z17142, .int z17134, .int z17130]) (rest := []) X hT (km46_X12_far l G tag L F hT.2.2.2 p0 z17142 z17134 z17130 z17143 m0 g0 (by omega) (by omega) qz17143) m0 g0 rfl rfl qw_619 qw_620 qw_621 qw_476 qw_622 ⟨rfl, by decide +kernel, by decide +kernel, by decide +kernel⟩ ⟨Nat.le_of_ble_eq_true rfl, Nat.le_of_ble_eq_true rfl⟩ hl rfl rfl (Nat.le_of_ble_eq_true rfl) dX13_fitsIn_104 ⟨Nat.le_of_ble_eq_true rfl, Nat.le_of_ble_eq_true rfl⟩ (fun z17158 F9 H locs hT hz17158 => ?_)
                  obtain ⟨fz17158, hz17158⟩ := hz17158
                  rw [fz17158] at hT
                  refine lv_aload_n hx hb dX13_fitsIn_107 rfl (lv_at hl 1 rfl) ?_
                  refine lv_iconst (v := 0) hx hb dX13_fitsIn_108 (by decide) ?_
                  refine lv_iload hx hb dX13_fitsIn_109 (lv_at hl 6 rfl) ?_
                  refine lv_iadd hx hb dX13_fitsIn_111 ?_
                  refine lv_topi (fun z17159 ez17159 => ?_)
                  obtain rfl : z17142 = z17159 := (ar_zadd ez17159).symm
                  refine t_ild X hT m1 g1 rfl (by omega) dX13_fitsIn_112 (fun z17160 vz17160 rz17160 => ?_)
                  have rz17160 := row_ml (by omega) rz17160
                  refine lv_icmp_le (tgt := 119) hx hb dX13_fitsIn_113 (by decide) (fun c17161 => ?_) (fun c17161 => ?_)
                  · have w17162 := cv_le (rfl : z17158.toInt = z17158.toInt) (rfl : z17160.toInt = z17160.toInt) c17161
                    refine lv_aload_n hx hb dX13_fitsIn_119 rfl (lv_at hl 0 rfl) ?_
                    refine t_getN (C := RX12) (T := TX12) (N := 31) X hT m0 g0 rfl rfl 14 (by decide) (List.mem_of_getElem? (i := 18) rfl) inlX12 rfl dX13_fitsIn_120 (fun v17163 hv17163 ov17163 => ?_)
                    obtain ⟨z17164, rfl, rz17164⟩ := okV_i ov17163
                    refine lv_if_eq (tgt := 154) hx hb dX13_fitsIn_123 (by decide) (fun c17165 => ?_) (fun c17165 => ?_)
                    · have w17166 := cv_eq (rfl : z17164.toInt = z17164.toInt) (by decide : (0 : Int32).toInt = 0) c17165
                      refine lv_iconst (v := 0) hx hb dX13_fitsIn_154 (by decide) ?_
                      have k17167 : (0 : Int32).toInt = 0 := by decide
                      exact t_zret hQ X hT (by decide) (⟨rfl, (by decide)⟩) (Nat.le_of_ble_eq_true rfl) (Nat.le_of_ble_eq_true rfl) dX13_fitsIn_155
                    · have w17168 := cv_ne (rfl : z17164.toInt = z17164.toInt) (by decide : (0 : Int32).toInt = 0) c17165
                      refine lv_aload_n hx hb dX13_fitsIn_126 rfl (lv_at hl 1 rfl) ?_
                      refine lv_iconst (v := 0) hx hb dX13_fitsIn_127 (by decide) ?_
                      refine lv_iload hx hb dX13_fitsIn_128 (lv_at hl 6 rfl) ?_
                      refine lv_iadd hx hb dX13_fitsIn_130 ?_
                      refine lv_topi (fun z17169 ez17169 => ?_)
                      obtain rfl : z17142 = z17169 := (ar_zadd ez17169).symm
                      refine t_ild X hT m1 g1 rfl (by omega) dX13_fitsIn_131 (fun z17170 vz17170 rz17170 => ?_)
                      obtain rfl : z17160 = z17170 := vz17160.symm.trans vz17170
                      refine lv_if_eq (tgt := 154) hx hb dX13_fitsIn_132 (by decide) (fun c17171 => ?_) (fun c17171 => ?_)
                      · have w17172 := cv_eq (rfl : z17160.toInt = z17160.toInt) (by decide : (0 : Int32).toInt = 0) c17171
                        refine lv_iconst (v := 0) hx hb dX13_fitsIn_154 (by decide) ?_
                        have k17173 : (0 : Int32).toInt = 0 := by decide
                        exact t_zret hQ X hT (by decide) (⟨rfl, (by decide)⟩) (Nat.le_of_ble_eq_true rfl) (Nat.le_of_ble_eq_true rfl) dX13_fitsIn_155
                      · have w17174 := cv_ne (rfl : z17160.toInt = z17160.toInt) (by decide : (0 : Int32).toInt = 0) c17171
                        refine lv_aload_n hx hb dX13_fitsIn_135 rfl (lv_at hl 0 rfl) ?_
                        refine lv_iload hx hb dX13_fitsIn_136 (lv_at hl 6 rfl) ?_
                        refine lv_iload hx hb dX13_fitsIn_138 (lv_at hl 5 rfl) ?_
                        refine lv_iload hx hb dX13_fitsIn_140 (lv_at hl 4 rfl) ?_
                        refine t_cVi (n := 3) (C := RX12) (T := TX12) (N := 31) (As := [.int z17142, .int z17134, .int z17130]) (rest := []) X hT (km46_X12_far l G tag L F hT.2.2.2 p0 z17142 z17134 z17130 z17143 m0 g0 (by omega) (by omega) qz17143) m0 g0 rfl rfl qw_619 qw_620 qw_621 qw_476 qw_622 ⟨rfl, by decide +kernel, by decide +kernel, by decide +kernel⟩ ⟨Nat.le_of_ble_eq_true rfl, Nat.le_of_ble_eq_true rfl⟩ hl rfl rfl (Nat.le_of_ble_eq_true rfl) dX13_fitsIn_142 ⟨Nat.le_of_ble_eq_true rfl, Nat.le_of_ble_eq_true rfl⟩ (fun z17175 F9 H locs hT hz17175 => ?_)
                        obtain ⟨fz17175, hz17175⟩ := hz17175
                        rw [fz17175] at hT
                        refine lv_aload_n hx hb dX13_fitsIn_145 rfl (lv_at hl 1 rfl) ?_
                        refine lv_iconst (v := 0) hx hb dX13_fitsIn_146 (by decide) ?_
                        refine lv_iload hx hb dX13_fitsIn_147 (lv_at hl 6 rfl) ?_
                        refine lv_iadd hx hb dX13_fitsIn_149 ?_
                        refine lv_topi (fun z17176 ez17176 => ?_)
                        obtain rfl : z17142 = z17176 := (ar_zadd ez17176).symm
                        refine t_ild X hT m1 g1 rfl (by omega) dX13_fitsIn_150 (fun z17177 vz17177 rz17177 => ?_)
                        obtain rfl : z17160 = z17177 := vz17160.symm.trans vz17177
                        refine lv_icmp_ge (tgt := 156) hx hb dX13_fitsIn_151 (by decide) (fun c17178 => ?_) (fun c17178 => ?_)
                        · have w17179 := cv_le (rfl : z17160.toInt = z17160.toInt) (rfl : z17175.toInt = z17175.toInt) c17178
                          exact K156 z17143 z17144 z17151 _ _ _ (by omega) (by omega) (by omega) (by omega) hT qz17143 qz17144 hv17150 (lv_sub hl [0, 1, 2, 3, 4, 5, 6] rfl)
                        · have w17180 := cv_nle (rfl : z17160.toInt = z17160.toInt) (rfl : z17175.toInt = z17175.toInt) c17178
                          refine lv_iconst (v := 0) hx hb dX13_fitsIn_154 (by decide) ?_
                          have k17181 : (0 : Int32).toInt = 0 := by decide
                          exact t_zret hQ X hT (by decide) (⟨rfl, (by decide)⟩) (Nat.le_of_ble_eq_true rfl) (Nat.le_of_ble_eq_true rfl) dX13_fitsIn_155
                  · have w17182 := cv_nle (rfl : z17158.toInt = z17158.toInt) (rfl : z17160.toInt = z17160.toInt) c17161
                    refine lv_goto (tgt := 156) hx hb dX13_fitsIn_116 (by decide) ?_
                    exact K156 z17143 z17144 z17151 _ _ _ (by omega) (by omega) (by omega) (by omega) hT qz17143 qz17144 hv17150 (lv_sub hl [0, 1, 2, 3, 4, 5, 6] rfl)
          refine lv_iload hx hb dX13_fitsIn_38 (lv_at hl 5 rfl) ?_
          refine lv_aload_n hx hb dX13_fitsIn_40 rfl (lv_at hl 0 rfl) ?_
          refine lv_iload_n hx hb dX13_fitsIn_41 rfl (lv_at hl 2 rfl) ?_
          refine t_cVi (n := 1) (C := RX12) (T := TX12) (N := 31) (As := [.int p2]) (rest := [.int z17134]) X hT (km45_X12_x l G tag L F hT.2.2.2 p0 p2 z17135 m0 g0 (by omega) (by omega) qz17135) m0 g0 rfl rfl qw_648 qw_624 qw_625 qw_476 qw_626 ⟨rfl, by decide +kernel, by decide +kernel, by decide +kernel⟩ ⟨Nat.le_of_ble_eq_true rfl, Nat.le_of_ble_eq_true rfl⟩ hl rfl rfl (Nat.le_of_ble_eq_true rfl) dX13_fitsIn_42 ⟨Nat.le_of_ble_eq_true rfl, Nat.le_of_ble_eq_true rfl⟩ (fun z17183 F9 H locs hT hz17183 => ?_)
          obtain ⟨fz17183, hz17183⟩ := hz17183
          rw [fz17183] at hT
          refine lv_iload_n hx hb dX13_fitsIn_45 rfl (lv_at hl 3 rfl) ?_
          refine lv_iadd hx hb dX13_fitsIn_46 ?_
          refine lv_topi (fun z17184 ez17184 => ?_)
          have hz17184 : z17184.toInt = z17183.toInt + z17129.toInt := ar_add ez17184 (rfl : z17183.toInt = z17183.toInt) (rfl : z17129.toInt = z17129.toInt) (by omega) (by omega)
          have rz17184 : 1 ≤ z17184.toInt ∧ z17184.toInt ≤ 18 := by omega
          refine lv_icmp_gt (tgt := 168) hx hb dX13_fitsIn_47 (by decide) (fun c17185 => ?_) (fun c17185 => ?_)
          · have w17186 := cv_lt (rfl : z17184.toInt = z17184.toInt) (rfl : z17134.toInt = z17134.toInt) c17185
            obtain ⟨z17187, ez17187⟩ : ∃ y : Int32, y = z17130 + 1 := ⟨_, rfl⟩
            have hz17187 : z17187.toInt = z17130.toInt + 1 := ar_add ez17187 rfl (by decide : (1 : Int32).toInt = 1) (by omega) (by omega)
            refine lv_iinc (v := z17187) (lv' := [(4, .int z17187), (0, .ref p0), (1, .ref p1), (2, .int p2), (3, .int z17129), (5, .int z17134)]) hx hb dX13_fitsIn_168 hl (k := 4) rfl (by rw [ez17187]; rfl) (by decide) rfl (fun ls hl => ?_)
            refine lv_goto (tgt := 17) hx hb dX13_fitsIn_171 (by decide) ?_
            exact ih17 z17129 z17187 z17135 z17136 _ _ _ (by omega) (by omega) (by omega) (by omega) (by omega) hT qz17135 qz17136 (lv_sub hl [1, 2, 3, 4, 0] rfl)
          · have w17188 := cv_nlt (rfl : z17184.toInt = z17184.toInt) (rfl : z17134.toInt = z17134.toInt) c17185
            refine lv_aload_n hx hb dX13_fitsIn_50 rfl (lv_at hl 0 rfl) ?_
            refine lv_iload_n hx hb dX13_fitsIn_51 rfl (lv_at hl 2 rfl) ?_
            refine lv_iload hx hb dX13_fitsIn_52 (lv_at hl 5 rfl) ?_
            refine lv_iload hx hb dX13_fitsIn_54 (lv_at hl 4 rfl) ?_
            refine t_cVi (n := 3) (C := RX12) (T := TX12) (N := 31) (As := [.int p2, .int z17134, .int z17130]) (rest := []) X hT (km46_X12_far l G tag L F hT.2.2.2 p0 p2 z17134 z17130 z17135 m0 g0 (by omega) (by omega) qz17135) m0 g0 rfl rfl qw_619 qw_620 qw_621 qw_476 qw_622 ⟨rfl, by decide +kernel, by decide +kernel, by decide +kernel⟩ ⟨Nat.le_of_ble_eq_true rfl, Nat.le_of_ble_eq_true rfl⟩ hl rfl rfl (Nat.le_of_ble_eq_true rfl) dX13_fitsIn_56 ⟨Nat.le_of_ble_eq_true rfl, Nat.le_of_ble_eq_true rfl⟩ (fun z17189 F9 H locs hT hz17189 => ?_)
            obtain ⟨fz17189, hz17189⟩ := hz17189
            rw [fz17189] at hT
            refine lv_iload_n hx hb dX13_fitsIn_59 rfl (lv_at hl 3 rfl) ?_
            refine lv_icmp_eq (tgt := 66) hx hb dX13_fitsIn_60 (by decide) (fun c17190 => ?_) (fun c17190 => ?_)
            · have w17191 := cv_eq (rfl : z17189.toInt = z17189.toInt) (rfl : z17129.toInt = z17129.toInt) c17190
              refine lv_aload_n hx hb dX13_fitsIn_66 rfl (lv_at hl 0 rfl) ?_
              refine lv_iload hx hb dX13_fitsIn_67 (lv_at hl 5 rfl) ?_
              refine lv_iload hx hb dX13_fitsIn_69 (lv_at hl 4 rfl) ?_
              refine t_cVi (n := 2) (C := RX12) (T := TX12) (N := 31) (As := [.int z17134, .int z17130]) (rest := []) X hT (km47_X12_isLand l G tag L F hT.2.2.2 p0 z17134 z17130 m0 g0) m0 g0 rfl rfl qw_649 qw_650 qw_651 qw_476 qw_652 ⟨rfl, by decide +kernel, by decide +kernel, by decide +kernel⟩ ⟨Nat.le_of_ble_eq_true rfl, Nat.le_of_ble_eq_true rfl⟩ hl rfl rfl (Nat.le_of_ble_eq_true rfl) dX13_fitsIn_71 ⟨Nat.le_of_ble_eq_true rfl, Nat.le_of_ble_eq_true rfl⟩ (fun z17192 F9 H locs hT hz17192 => ?_)
              obtain ⟨fz17192, hz17192⟩ := hz17192
              rw [fz17192] at hT
              refine lv_if_ne (tgt := 79) hx hb dX13_fitsIn_74 (by decide) (fun c17193 => ?_) (fun c17193 => ?_)
              · have w17194 := cv_ne (rfl : z17192.toInt = z17192.toInt) (by decide : (0 : Int32).toInt = 0) c17193
                refine lv_iconst (v := 0) hx hb dX13_fitsIn_79 (by decide) ?_
                refine lv_istore (lv' := [(6, .int 0), (0, .ref p0), (1, .ref p1), (2, .int p2), (3, .int z17129), (4, .int z17130), (5, .int z17134)]) hx hb dX13_fitsIn_80 hl (by decide) rfl (fun ls hl => ?_)
                have k17195 : (0 : Int32).toInt = 0 := by decide
                exact K82 5 0 z17135 z17136 _ _ _ (by omega) (by decide) (by omega) (by omega) (by omega) hT qz17135 qz17136 (lv_sub hl [1, 2, 3, 4, 5, 6, 0] rfl)
              · have w17196 := cv_eq (rfl : z17192.toInt = z17192.toInt) (by decide : (0 : Int32).toInt = 0) c17193
                refine lv_iconst (v := 0) hx hb dX13_fitsIn_77 (by decide) ?_
                have k17197 : (0 : Int32).toInt = 0 := by decide
                exact t_zret hQ X hT (by decide) (⟨rfl, (by decide)⟩) (Nat.le_of_ble_eq_true rfl) (Nat.le_of_ble_eq_true rfl) dX13_fitsIn_78
            · have w17198 := cv_ne (rfl : z17189.toInt = z17189.toInt) (rfl : z17129.toInt = z17129.toInt) c17190
              refine lv_goto (tgt := 162) hx hb dX13_fitsIn_63 (by decide) ?_
              exact K162 z17135 z17136 _ _ _ (by omega) (by omega) (by omega) hT qz17135 qz17136 (lv_sub hl [0, 1, 2, 3, 4, 5] rfl)
      refine lv_iload hx hb dX13_fitsIn_17 (lv_at hl 4 rfl) ?_
      refine lv_aload_n hx hb dX13_fitsIn_19 rfl (lv_at hl 0 rfl) ?_
      refine lv_iload_n hx hb dX13_fitsIn_20 rfl (lv_at hl 2 rfl) ?_
      refine t_cVi (n := 1) (C := RX12) (T := TX12) (N := 31) (As := [.int p2]) (rest := [.int z17130]) X hT (km44_X12_y l G tag L F hT.2.2.2 p0 p2 z17131 m0 g0 (by omega) (by omega) qz17131) m0 g0 rfl rfl qw_647 qw_629 qw_630 qw_476 qw_631 ⟨rfl, by decide +kernel, by decide +kernel, by decide +kernel⟩ ⟨Nat.le_of_ble_eq_true rfl, Nat.le_of_ble_eq_true rfl⟩ hl rfl rfl (Nat.le_of_ble_eq_true rfl) dX13_fitsIn_21 ⟨Nat.le_of_ble_eq_true rfl, Nat.le_of_ble_eq_true rfl⟩ (fun z17199 F9 H locs hT hz17199 => ?_)
      obtain ⟨fz17199, hz17199⟩ := hz17199
      rw [fz17199] at hT
      refine lv_iload_n hx hb dX13_fitsIn_24 rfl (lv_at hl 3 rfl) ?_
      refine lv_iadd hx hb dX13_fitsIn_25 ?_
      refine lv_topi (fun z17200 ez17200 => ?_)
      have hz17200 : z17200.toInt = z17199.toInt + z17129.toInt := ar_add ez17200 (rfl : z17199.toInt = z17199.toInt) (rfl : z17129.toInt = z17129.toInt) (by omega) (by omega)
      have rz17200 : 1 ≤ z17200.toInt ∧ z17200.toInt ≤ 150 := by omega
      refine lv_icmp_gt (tgt := 174) hx hb dX13_fitsIn_26 (by decide) (fun c17201 => ?_) (fun c17201 => ?_)
      · have w17202 := cv_lt (rfl : z17200.toInt = z17200.toInt) (rfl : z17130.toInt = z17130.toInt) c17201
        refine lv_iconst (v := 1) hx hb dX13_fitsIn_174 (by decide) ?_
        have k17203 : (1 : Int32).toInt = 1 := by decide
        exact t_zret hQ X hT (by decide) (⟨rfl, (by decide)⟩) (Nat.le_of_ble_eq_true rfl) (Nat.le_of_ble_eq_true rfl) dX13_fitsIn_175
      · have w17204 := cv_nlt (rfl : z17200.toInt = z17200.toInt) (rfl : z17130.toInt = z17130.toInt) c17201
        refine lv_aload_n hx hb dX13_fitsIn_29 rfl (lv_at hl 0 rfl) ?_
        refine lv_iload_n hx hb dX13_fitsIn_30 rfl (lv_at hl 2 rfl) ?_
        refine t_cVi (n := 1) (C := RX12) (T := TX12) (N := 31) (As := [.int p2]) (rest := []) X hT (km45_X12_x l G tag L F hT.2.2.2 p0 p2 z17131 m0 g0 (by omega) (by omega) qz17131) m0 g0 rfl rfl qw_648 qw_624 qw_625 qw_476 qw_626 ⟨rfl, by decide +kernel, by decide +kernel, by decide +kernel⟩ ⟨Nat.le_of_ble_eq_true rfl, Nat.le_of_ble_eq_true rfl⟩ hl rfl rfl (Nat.le_of_ble_eq_true rfl) dX13_fitsIn_31 ⟨Nat.le_of_ble_eq_true rfl, Nat.le_of_ble_eq_true rfl⟩ (fun z17205 F9 H locs hT hz17205 => ?_)
        obtain ⟨fz17205, hz17205⟩ := hz17205
        rw [fz17205] at hT
        refine lv_iload_n hx hb dX13_fitsIn_34 rfl (lv_at hl 3 rfl) ?_
        refine lv_isub hx hb dX13_fitsIn_35 ?_
        refine lv_topi (fun z17206 ez17206 => ?_)
        have hz17206 : z17206.toInt = z17205.toInt - z17129.toInt := ar_sub ez17206 (rfl : z17205.toInt = z17205.toInt) (rfl : z17129.toInt = z17129.toInt) (by omega) (by omega)
        have rz17206 : (-7) ≤ z17206.toInt ∧ z17206.toInt ≤ 10 := by omega
        refine lv_istore (lv' := [(5, .int z17206), (0, .ref p0), (1, .ref p1), (2, .int p2), (3, .int z17129), (4, .int z17130)]) hx hb dX13_fitsIn_36 hl (by decide) rfl (fun ls hl => ?_)
        exact K38 28 z17206 z17131 z17132 _ _ _ (by omega) (by omega) (by omega) (by omega) (by omega) hT qz17131 qz17132 (lv_sub hl [1, 2, 3, 4, 5, 0] rfl)
  refine lv_aload_n hx hb dX13_fitsIn_0 rfl (lv_at hl 1 rfl) ?_
  refine lv_iconst (v := 0) hx hb dX13_fitsIn_1 (by decide) ?_
  refine lv_iload_n hx hb dX13_fitsIn_2 rfl (lv_at hl 2 rfl) ?_
  refine lv_iadd hx hb dX13_fitsIn_3 ?_
  refine lv_topi (fun z17207 ez17207 => ?_)
  obtain rfl : p2 = z17207 := (ar_zadd ez17207).symm
  refine t_ild X hT m1 g1 rfl (by omega) dX13_fitsIn_4 (fun z17208 vz17208 rz17208 => ?_)
  have rz17208 := row_ml (by omega) rz17208
  refine lv_iconst (v := 1) hx hb dX13_fitsIn_5 (by decide) ?_
  refine lv_iadd hx hb dX13_fitsIn_6 ?_
  refine lv_topi (fun z17209 ez17209 => ?_)
  have hz17209 : z17209.toInt = z17208.toInt + 1 := ar_add ez17209 (rfl : z17208.toInt = z17208.toInt) (by decide : (1 : Int32).toInt = 1) (by omega) (by omega)
  have rz17209 : 1 ≤ z17209.toInt ∧ z17209.toInt ≤ 7 := by omega
  refine lv_istore_n (lv' := [(3, .int z17209), (0, .ref p0), (1, .ref p1), (2, .int p2)]) hx hb dX13_fitsIn_7 rfl hl (by decide) rfl (fun ls hl => ?_)
  refine lv_aload_n hx hb dX13_fitsIn_8 rfl (lv_at hl 1 rfl) ?_
  refine lv_iload_n hx hb dX13_fitsIn_9 rfl (lv_at hl 3 rfl) ?_
  refine t_cVi (n := 1) (C := RX12) (T := TX12) (N := 31) (As := [.int p2]) (rest := []) X hT (km44_X12_y l G tag L F hT.2.2.2 p0 p2 x0 m0 g0 (by omega) (by omega) pf0) m0 g0 rfl rfl qw_647 qw_629 qw_630 qw_476 qw_631 ⟨rfl, by decide +kernel, by decide +kernel, by decide +kernel⟩ ⟨Nat.le_of_ble_eq_true rfl, Nat.le_of_ble_eq_true rfl⟩ hl rfl rfl (Nat.le_of_ble_eq_true rfl) dX13_fitsIn_10 ⟨Nat.le_of_ble_eq_true rfl, Nat.le_of_ble_eq_true rfl⟩ (fun z17210 F9 H locs hT hz17210 => ?_)
  obtain ⟨fz17210, hz17210⟩ := hz17210
  rw [fz17210] at hT
  refine lv_iload_n hx hb dX13_fitsIn_13 rfl (lv_at hl 0 rfl) ?_
  refine lv_isub hx hb dX13_fitsIn_14 ?_
  refine lv_topi (fun z17211 ez17211 => ?_)
  have hz17211 : z17211.toInt = z17210.toInt - z17209.toInt := ar_sub ez17211 (rfl : z17210.toInt = z17210.toInt) (rfl : z17209.toInt = z17209.toInt) (by omega) (by omega)
  have rz17211 : (-7) ≤ z17211.toInt ∧ z17211.toInt ≤ 142 := by omega
  refine lv_istore (lv' := [(4, .int z17211), (3, .int z17209), (0, .ref p0), (1, .ref p1), (2, .int p2)]) hx hb dX13_fitsIn_15 hl (by decide) rfl (fun ls hl => ?_)
  exact K17 201 z17209 z17211 x0 z17208 _ _ _ (by omega) (by omega) (by omega) (by omega) (by omega) hT pf0 vz17208 (lv_sub hl [2, 3, 4, 1, 0] rfl)
