set_option maxHeartbeats 4000000 in
set_option maxRecDepth 100000 in
theorem km19_X13_within (l : Launch) (G : KG) (tag : Nat → Nat) (L : List Nat) (F : Nat → va_E) (ho : okT G ttC tag L F) (p0 : Int32) (p1 : Int32) (p2 : Int32)  : TMi l yX13_within cX13_within 3 (some .boolean) { frames := 0, cells := 0, slots := 0, locals := 0 } G ttC tag L F [.int p0, .int p1, .int p2] (fun r F1 => F1 = F ∧ (0 ≤ r.toInt ∧ r.toInt ≤ 1) ∧ (r.toInt ≠ 0 → p1.toInt ≤ p0.toInt ∧ p0.toInt ≤ p2.toInt)) := by
  refine t_bodyi (y := yX13_within) (cd := cX13_within) (mL := 3) (rt := (some .boolean)) (rm := { frames := 0, cells := 0, slots := 0, locals := 0 }) (av := [.int p0, .int p1, .int p2]) (by decide) (Nat.le_of_ble_eq_true rfl) ho ?_
  intro p e s m args below meth c ls A Q hQ X hT hl
  have hx := X.1.1
  have hb := X.1.2.1
  have hl : lv_has ls 3 [(0, .int p0), (1, .int p1), (2, .int p2)] := hl
  have rp0 := rg_all p0
  have rp1 := rg_all p1
  have rp2 := rg_all p2
  refine lv_iload_n hx hb dX13_within_0 rfl (lv_at hl 0 rfl) ?_
  refine lv_iload_n hx hb dX13_within_1 rfl (lv_at hl 1 rfl) ?_
  refine lv_icmp_lt (tgt := 14) hx hb dX13_within_2 (by decide) (fun c9281 => ?_) (fun c9281 => ?_)
  · have w9282 := cv_lt (rfl : p0.toInt = p0.toInt) (rfl : p1.toInt = p1.toInt) c9281
    refine lv_iconst (v := 0) hx hb dX13_within_14 (by decide) ?_
    have k9283 : (0 : Int32).toInt = 0 := by decide
    exact t_zret hQ X hT (by decide) (⟨rfl, (by decide), (by omega)⟩) (Nat.le_of_ble_eq_true rfl) (Nat.le_of_ble_eq_true rfl) dX13_within_15
  · have w9284 := cv_nlt (rfl : p0.toInt = p0.toInt) (rfl : p1.toInt = p1.toInt) c9281
    refine lv_iload_n hx hb dX13_within_5 rfl (lv_at hl 0 rfl) ?_
    refine lv_iload_n hx hb dX13_within_6 rfl (lv_at hl 2 rfl) ?_
    refine lv_icmp_gt (tgt := 14) hx hb dX13_within_7 (by decide) (fun c9285 => ?_) (fun c9285 => ?_)
    · have w9286 := cv_lt (rfl : p2.toInt = p2.toInt) (rfl : p0.toInt = p0.toInt) c9285
      refine lv_iconst (v := 0) hx hb dX13_within_14 (by decide) ?_
      have k9287 : (0 : Int32).toInt = 0 := by decide
      exact t_zret hQ X hT (by decide) (⟨rfl, (by decide), (by omega)⟩) (Nat.le_of_ble_eq_true rfl) (Nat.le_of_ble_eq_true rfl) dX13_within_15
    · have w9288 := cv_nlt (rfl : p2.toInt = p2.toInt) (rfl : p0.toInt = p0.toInt) c9285
      refine lv_iconst (v := 1) hx hb dX13_within_10 (by decide) ?_
      refine lv_goto (tgt := 15) hx hb dX13_within_11 (by decide) ?_
      have k9289 : (1 : Int32).toInt = 1 := by decide
      exact t_zret hQ X hT (by decide) (⟨rfl, (by decide), (by omega)⟩) (Nat.le_of_ble_eq_true rfl) (Nat.le_of_ble_eq_true rfl) dX13_within_15
set_option maxHeartbeats 4000000 in
set_option maxRecDepth 100000 in
theorem km20_X13_bounded (l : Launch) (G : KG) (tag : Nat → Nat) (L : List Nat) (Fo : Nat → va_E) (ho : okT G ttC tag L Fo) (p0 : Nat) (p1 : Int32) (p2 : Int32) (x0 : Nat) (x1 : Nat) (x2 : Nat) (x3 : Int32) (x4 : Int32) (x5 : Int32) (m0 : p0 ∈ L) (g0 : tag p0 = 46) (h1 : 0 ≤ p1.toInt ∧ p1.toInt ≤ 0) (h2 : 999 ≤ p2.toInt ∧ p2.toInt ≤ 999) (mx0 : x0 ∈ L) (gx0 : tag x0 = 44) (pf0 : fld Fo p0 4 = .ref x0) (mx1 : x1 ∈ L) (gx1 : tag x1 = 35) (pf1 : fld Fo x0 28 = .ref x1) (mx2 : x2 ∈ L) (gx2 : tag x2 = 36) (pf2 : fld Fo x0 29 = .ref x2) (hx3 : 0 ≤ x3.toInt ∧ x3.toInt ≤ 5) (pf3 : fld Fo p0 9 = .int x3) (hx4 : 0 ≤ x4.toInt ∧ x4.toInt ≤ 1000) (pf4 : fld Fo p0 8 = .int x4) (hx5 : 0 ≤ x5.toInt ∧ x5.toInt ≤ 7) (pf5 : fld Fo p0 13 = .int x5) (hkf : KF x3 x5) : TMi l yX13_bounded cX13_bounded 3 (some .int) { frames := 1, cells := 0, slots := 0, locals := 22 } G ttC tag L Fo [.ref p0, .int p1, .int p2] (fun r F1 => (0 ≤ r.toInt ∧ r.toInt ≤ 999) ∧ ((∀ b j : Nat, (tag b ≠ 46 ∨ j ≠ 9) → (tag b ≠ 46 ∨ j ≠ 13) → (tag b ≠ 46 ∨ j ≠ 14) → fld F1 b j = fld Fo b j) ∧ (∀ b j : Nat, elm F1 b j = elm Fo b j)) ∧ (∃ so sp fa : Int32, fld F1 p0 9 = .int so ∧ fld F1 p0 8 = .int sp ∧ fld F1 p0 13 = .int fa ∧ (0 ≤ so.toInt ∧ so.toInt ≤ 5) ∧ (0 ≤ sp.toInt ∧ sp.toInt ≤ 1000) ∧ (0 ≤ fa.toInt ∧ fa.toInt ≤ 7) ∧ STK x3 so ∧ SPT x3 x4 so sp ∧ KF so fa)) := by
  refine t_bodyi (y := yX13_bounded) (cd := cX13_bounded) (mL := 3) (rt := (some .int)) (rm := { frames := 1, cells := 0, slots := 0, locals := 22 }) (av := [.ref p0, .int p1, .int p2]) (by decide) (Nat.le_of_ble_eq_true rfl) ho ?_
  intro p e s m args below meth c ls A Q hQ X hT hl
  have hx := X.1.1
  have hb := X.1.2.1
  have hl : lv_has ls 3 [(0, .ref p0), (1, .int p1), (2, .int p2)] := hl
  obtain ⟨F, hFo⟩ : ∃ F : Nat → va_E, F = Fo := ⟨_, rfl⟩
  rw [← hFo] at hT pf0 pf1 pf2 pf3 pf4 pf5
  have hfr : (∀ b j : Nat, (tag b ≠ 46 ∨ j ≠ 9) → (tag b ≠ 46 ∨ j ≠ 13) → (tag b ≠ 46 ∨ j ≠ 14) → fld F b j = fld Fo b j) ∧ (∀ b j : Nat, elm F b j = elm Fo b j) := by
    rw [hFo]
    exact ⟨by intros; rfl, by intros; rfl⟩
  have hstk : STK x3 x3 := STK.rf
  have hspt : SPT x3 x4 x3 x4 := SPT.rf
  refine lv_aload_n hx hb dX13_bounded_0 rfl (lv_at hl 0 rfl) ?_
  refine t_get (C := RX13) (T := TX13) (N := 37) X hT m0 g0 rfl rfl 9 (by decide) qw_478 inlX13 rfl dX13_bounded_1 (fun v9571 hv9571 ov9571 => ?_)
  obtain rfl : v9571 = .int x3 := hv9571.symm.trans pf3
  refine lv_iconst (v := 3) hx hb dX13_bounded_4 (by decide) ?_
  refine lv_icmp_eq (tgt := 16) hx hb dX13_bounded_5 (by decide) (fun c9572 => ?_) (fun c9572 => ?_)
  · have w9573 := cv_eq (rfl : x3.toInt = x3.toInt) (by decide : (3 : Int32).toInt = 3) c9572
    refine lv_aload_n hx hb dX13_bounded_16 rfl (lv_at hl 0 rfl) ?_
    refine t_get (C := RX13) (T := TX13) (N := 37) X hT m0 g0 rfl rfl 12 (by decide) qw_516 inlX13 rfl dX13_bounded_17 (fun v9574 hv9574 ov9574 => ?_)
    obtain ⟨z9575, rfl, rz9575⟩ := okV_i ov9574
    refine lv_iload_n hx hb dX13_bounded_20 rfl (lv_at hl 1 rfl) ?_
    refine lv_iload_n hx hb dX13_bounded_21 rfl (lv_at hl 2 rfl) ?_
    refine t_cSi (n := 3) (As := [.int z9575, .int p1, .int p2]) (rest := []) X hT (km19_X13_within l G tag L F hT.2.2.2 z9575 p1 p2 ) qw_568 qw_569 qw_5 qw_570 ⟨by decide +kernel, by decide +kernel, by decide +kernel⟩ ⟨Nat.le_of_ble_eq_true rfl, Nat.le_of_ble_eq_true rfl⟩ hl rfl rfl (Nat.le_of_ble_eq_true rfl) dX13_bounded_22 ⟨Nat.le_of_ble_eq_true rfl, Nat.le_of_ble_eq_true rfl⟩ (fun z9576 F9 H locs hT hz9576 => ?_)
    obtain ⟨fz9576, hz9576, xz9576_0⟩ := hz9576
    rw [fz9576] at hT
    refine lv_if_ne (tgt := 33) hx hb dX13_bounded_25 (by decide) (fun c9577 => ?_) (fun c9577 => ?_)
    · have w9578 := cv_ne (rfl : z9576.toInt = z9576.toInt) (by decide : (0 : Int32).toInt = 0) c9577
      have w9579 := xz9576_0 (by omega)
      refine lv_aload_n hx hb dX13_bounded_33 rfl (lv_at hl 0 rfl) ?_
      refine t_get (C := RX13) (T := TX13) (N := 37) X hT m0 g0 rfl rfl 9 (by decide) qw_478 inlX13 rfl dX13_bounded_34 (fun v9580 hv9580 ov9580 => ?_)
      obtain rfl : v9580 = .int x3 := hv9580.symm.trans pf3
      refine lv_iconst (v := 5) hx hb dX13_bounded_37 (by decide) ?_
      refine lv_icmp_ne (tgt := 45) hx hb dX13_bounded_38 (by decide) (fun c9581 => ?_) (fun c9581 => ?_)
      · have w9582 := cv_ne (rfl : x3.toInt = x3.toInt) (by decide : (5 : Int32).toInt = 5) c9581
        refine lv_aload_n hx hb dX13_bounded_45 rfl (lv_at hl 0 rfl) ?_
        refine t_get (C := RX13) (T := TX13) (N := 37) X hT m0 g0 rfl rfl 12 (by decide) qw_516 inlX13 rfl dX13_bounded_46 (fun v9583 hv9583 ov9583 => ?_)
        obtain rfl : v9583 = .int z9575 := hv9583.symm.trans hv9574
        exact t_iret hQ X hT (⟨(by omega), hfr, ⟨x3, x4, x5, pf3, pf4, pf5, (by omega), (by omega), (by omega), hstk, hspt, hkf⟩⟩) (Nat.le_of_ble_eq_true rfl) (Nat.le_of_ble_eq_true rfl) dX13_bounded_49
      · have w9584 := cv_eq (rfl : x3.toInt = x3.toInt) (by decide : (5 : Int32).toInt = 5) c9581
        exfalso
        omega
    · have w9585 := cv_eq (rfl : z9576.toInt = z9576.toInt) (by decide : (0 : Int32).toInt = 0) c9577
      refine lv_aload_n hx hb dX13_bounded_28 rfl (lv_at hl 0 rfl) ?_
      refine lv_iconst (v := 4) hx hb dX13_bounded_29 (by decide) ?_
      refine t_cVv (n := 1) (C := RX13) (T := TX13) (N := 37) (As := [.int 4]) (rest := []) X hT (km10_X13_flaw l G tag L F hT.2.2.2 p0 4 x0 x1 x2 x3 x4 x5 m0 g0 (by decide) mx0 gx0 pf0 mx1 gx1 pf1 mx2 gx2 pf2 (by omega) pf3 (by omega) pf4 (by omega) pf5 hkf) m0 g0 rfl rfl qw_548 qw_549 qw_550 qw_5 qw_551 ⟨rfl, by decide +kernel, by decide +kernel, by decide +kernel⟩ ⟨Nat.le_of_ble_eq_true rfl, Nat.le_of_ble_eq_true rfl⟩ hl rfl rfl (Nat.le_of_ble_eq_true rfl) dX13_bounded_30 ⟨Nat.le_of_ble_eq_true rfl, Nat.le_of_ble_eq_true rfl⟩ (fun F H locs hT hz9586 => ?_)
      obtain ⟨yz9586, ⟨soz9586, spz9586, faz9586, qsoz9586, qspz9586, qfaz9586, rsoz9586, rspz9586, rfaz9586, stz9586, ptz9586, hkf, pxz9586_0⟩⟩ := hz9586
      have pf0 := (yz9586.1 _ 4 (Or.inr (by decide)) (Or.inr (by decide)) (Or.inr (by decide))).trans pf0
      have pf1 := (yz9586.1 _ 28 (Or.inr (by decide)) (Or.inr (by decide)) (Or.inr (by decide))).trans pf1
      have pf2 := (yz9586.1 _ 29 (Or.inr (by decide)) (Or.inr (by decide)) (Or.inr (by decide))).trans pf2
      have pf4 := (yz9586.1 _ 8 (Or.inr (by decide)) (Or.inr (by decide)) (Or.inr (by decide))).trans pf4
      have hv9574 := (yz9586.1 _ 12 (Or.inr (by decide)) (Or.inr (by decide)) (Or.inr (by decide))).trans hv9574
      have hfr : (∀ b j : Nat, (tag b ≠ 46 ∨ j ≠ 9) → (tag b ≠ 46 ∨ j ≠ 13) → (tag b ≠ 46 ∨ j ≠ 14) → fld F b j = fld Fo b j) ∧ (∀ b j : Nat, elm F b j = elm Fo b j) := ⟨fun b j n46_9 n46_13 n46_14 => (yz9586.1 b j n46_9 n46_13 n46_14).trans (hfr.1 b j n46_9 n46_13 n46_14), fun b j  => (yz9586.2 b j ).trans (hfr.2 b j )⟩
      have hstk := STK.tr hstk stz9586
      have hspt := SPT.tr hspt ptz9586
      refine lv_aload_n hx hb dX13_bounded_33 rfl (lv_at hl 0 rfl) ?_
      refine t_get (C := RX13) (T := TX13) (N := 37) X hT m0 g0 rfl rfl 9 (by decide) qw_478 inlX13 rfl dX13_bounded_34 (fun v9587 hv9587 ov9587 => ?_)
      obtain rfl : v9587 = .int soz9586 := hv9587.symm.trans qsoz9586
      refine lv_iconst (v := 5) hx hb dX13_bounded_37 (by decide) ?_
      refine lv_icmp_ne (tgt := 45) hx hb dX13_bounded_38 (by decide) (fun c9588 => ?_) (fun c9588 => ?_)
      · have w9589 := cv_ne (rfl : soz9586.toInt = soz9586.toInt) (by decide : (5 : Int32).toInt = 5) c9588
        exfalso
        omega
      · have w9590 := cv_eq (rfl : soz9586.toInt = soz9586.toInt) (by decide : (5 : Int32).toInt = 5) c9588
        refine lv_iload_n hx hb dX13_bounded_41 rfl (lv_at hl 1 rfl) ?_
        refine lv_goto (tgt := 49) hx hb dX13_bounded_42 (by decide) ?_
        exact t_iret hQ X hT (⟨(by omega), hfr, ⟨soz9586, spz9586, faz9586, qsoz9586, qspz9586, qfaz9586, (by omega), (by omega), (by omega), hstk, hspt, hkf⟩⟩) (Nat.le_of_ble_eq_true rfl) (Nat.le_of_ble_eq_true rfl) dX13_bounded_49
  · have w9591 := cv_ne (rfl : x3.toInt = x3.toInt) (by decide : (3 : Int32).toInt = 3) c9572
    refine lv_aload_n hx hb dX13_bounded_8 rfl (lv_at hl 0 rfl) ?_
    refine lv_iconst (v := 1) hx hb dX13_bounded_9 (by decide) ?_
    refine t_cVv (n := 1) (C := RX13) (T := TX13) (N := 37) (As := [.int 1]) (rest := []) X hT (km10_X13_flaw l G tag L F hT.2.2.2 p0 1 x0 x1 x2 x3 x4 x5 m0 g0 (by decide) mx0 gx0 pf0 mx1 gx1 pf1 mx2 gx2 pf2 (by omega) pf3 (by omega) pf4 (by omega) pf5 hkf) m0 g0 rfl rfl qw_548 qw_549 qw_550 qw_5 qw_551 ⟨rfl, by decide +kernel, by decide +kernel, by decide +kernel⟩ ⟨Nat.le_of_ble_eq_true rfl, Nat.le_of_ble_eq_true rfl⟩ hl rfl rfl (Nat.le_of_ble_eq_true rfl) dX13_bounded_10 ⟨Nat.le_of_ble_eq_true rfl, Nat.le_of_ble_eq_true rfl⟩ (fun F H locs hT hz9592 => ?_)
    obtain ⟨yz9592, ⟨soz9592, spz9592, faz9592, qsoz9592, qspz9592, qfaz9592, rsoz9592, rspz9592, rfaz9592, stz9592, ptz9592, hkf, pxz9592_0⟩⟩ := hz9592
    have pf0 := (yz9592.1 _ 4 (Or.inr (by decide)) (Or.inr (by decide)) (Or.inr (by decide))).trans pf0
    have pf1 := (yz9592.1 _ 28 (Or.inr (by decide)) (Or.inr (by decide)) (Or.inr (by decide))).trans pf1
    have pf2 := (yz9592.1 _ 29 (Or.inr (by decide)) (Or.inr (by decide)) (Or.inr (by decide))).trans pf2
    have pf4 := (yz9592.1 _ 8 (Or.inr (by decide)) (Or.inr (by decide)) (Or.inr (by decide))).trans pf4
    have hfr : (∀ b j : Nat, (tag b ≠ 46 ∨ j ≠ 9) → (tag b ≠ 46 ∨ j ≠ 13) → (tag b ≠ 46 ∨ j ≠ 14) → fld F b j = fld Fo b j) ∧ (∀ b j : Nat, elm F b j = elm Fo b j) := ⟨fun b j n46_9 n46_13 n46_14 => (yz9592.1 b j n46_9 n46_13 n46_14).trans (hfr.1 b j n46_9 n46_13 n46_14), fun b j  => (yz9592.2 b j ).trans (hfr.2 b j )⟩
    have hstk := STK.tr hstk stz9592
    have hspt := SPT.tr hspt ptz9592
    refine lv_goto (tgt := 33) hx hb dX13_bounded_13 (by decide) ?_
    refine lv_aload_n hx hb dX13_bounded_33 rfl (lv_at hl 0 rfl) ?_
    refine t_get (C := RX13) (T := TX13) (N := 37) X hT m0 g0 rfl rfl 9 (by decide) qw_478 inlX13 rfl dX13_bounded_34 (fun v9593 hv9593 ov9593 => ?_)
    obtain rfl : v9593 = .int soz9592 := hv9593.symm.trans qsoz9592
    refine lv_iconst (v := 5) hx hb dX13_bounded_37 (by decide) ?_
    refine lv_icmp_ne (tgt := 45) hx hb dX13_bounded_38 (by decide) (fun c9594 => ?_) (fun c9594 => ?_)
    · have w9595 := cv_ne (rfl : soz9592.toInt = soz9592.toInt) (by decide : (5 : Int32).toInt = 5) c9594
      exfalso
      omega
    · have w9596 := cv_eq (rfl : soz9592.toInt = soz9592.toInt) (by decide : (5 : Int32).toInt = 5) c9594
      refine lv_iload_n hx hb dX13_bounded_41 rfl (lv_at hl 1 rfl) ?_
      refine lv_goto (tgt := 49) hx hb dX13_bounded_42 (by decide) ?_
      exact t_iret hQ X hT (⟨(by omega), hfr, ⟨soz9592, spz9592, faz9592, qsoz9592, qspz9592, qfaz9592, (by omega), (by omega), (by omega), hstk, hspt, hkf⟩⟩) (Nat.le_of_ble_eq_true rfl) (Nat.le_of_ble_eq_true rfl) dX13_bounded_49
set_option maxHeartbeats 4000000 in
set_option maxRecDepth 100000 in
theorem km21_X13_readWhole (l : Launch) (G : KG) (tag : Nat → Nat) (L : List Nat) (Fo : Nat → va_E) (ho : okT G ttC tag L Fo) (p0 : Nat) (p1 : Int32) (p2 : Int32) (x0 : Nat) (x1 : Nat) (x2 : Nat) (x3 : Int32) (x4 : Int32) (x5 : Int32) (m0 : p0 ∈ L) (g0 : tag p0 = 46) (h1 : 0 ≤ p1.toInt ∧ p1.toInt ≤ 0) (h2 : 999 ≤ p2.toInt ∧ p2.toInt ≤ 999) (mx0 : x0 ∈ L) (gx0 : tag x0 = 44) (pf0 : fld Fo p0 4 = .ref x0) (mx1 : x1 ∈ L) (gx1 : tag x1 = 35) (pf1 : fld Fo x0 28 = .ref x1) (mx2 : x2 ∈ L) (gx2 : tag x2 = 36) (pf2 : fld Fo x0 29 = .ref x2) (hx3 : 0 ≤ x3.toInt ∧ x3.toInt ≤ 5) (pf3 : fld Fo p0 9 = .int x3) (hx4 : 0 ≤ x4.toInt ∧ x4.toInt ≤ 1000) (pf4 : fld Fo p0 8 = .int x4) (hx5 : 0 ≤ x5.toInt ∧ x5.toInt ≤ 7) (pf5 : fld Fo p0 13 = .int x5) (hkf : KF x3 x5) : TMi l yX13_readWhole cX13_readWhole 4 (some .int) { frames := 2, cells := 0, slots := 0, locals := 44 } G ttC tag L Fo [.ref p0, .int p1, .int p2] (fun r F1 => (0 ≤ r.toInt ∧ r.toInt ≤ 999) ∧ ((∀ b j : Nat, (tag b ≠ 46 ∨ j ≠ 8) → (tag b ≠ 46 ∨ j ≠ 9) → (tag b ≠ 46 ∨ j ≠ 10) → (tag b ≠ 46 ∨ j ≠ 11) → (tag b ≠ 46 ∨ j ≠ 12) → (tag b ≠ 46 ∨ j ≠ 13) → (tag b ≠ 46 ∨ j ≠ 14) → (tag b ≠ 46 ∨ j ≠ 15) → fld F1 b j = fld Fo b j) ∧ (∀ b j : Nat, elm F1 b j = elm Fo b j)) ∧ (∃ so sp fa : Int32, fld F1 p0 9 = .int so ∧ fld F1 p0 8 = .int sp ∧ fld F1 p0 13 = .int fa ∧ (0 ≤ so.toInt ∧ so.toInt ≤ 5) ∧ (0 ≤ sp.toInt ∧ sp.toInt ≤ 1000) ∧ (0 ≤ fa.toInt ∧ fa.toInt ≤ 7) ∧ STK x3 so ∧ SPT x3 x4 so sp ∧ KF so fa)) := by
  refine t_bodyi (y := yX13_readWhole) (cd := cX13_readWhole) (mL := 4) (rt := (some .int)) (rm := { frames := 2, cells := 0, slots := 0, locals := 44 }) (av := [.ref p0, .int p1, .int p2]) (by decide) (Nat.le_of_ble_eq_true rfl) ho ?_
  intro p e s m args below meth c ls A Q hQ X hT hl
  have hx := X.1.1
  have hb := X.1.2.1
  have hl : lv_has ls 4 [(0, .ref p0), (1, .int p1), (2, .int p2)] := hl
  obtain ⟨F, hFo⟩ : ∃ F : Nat → va_E, F = Fo := ⟨_, rfl⟩
  rw [← hFo] at hT pf0 pf1 pf2 pf3 pf4 pf5
  have hfr : (∀ b j : Nat, (tag b ≠ 46 ∨ j ≠ 8) → (tag b ≠ 46 ∨ j ≠ 9) → (tag b ≠ 46 ∨ j ≠ 10) → (tag b ≠ 46 ∨ j ≠ 11) → (tag b ≠ 46 ∨ j ≠ 12) → (tag b ≠ 46 ∨ j ≠ 13) → (tag b ≠ 46 ∨ j ≠ 14) → (tag b ≠ 46 ∨ j ≠ 15) → fld F b j = fld Fo b j) ∧ (∀ b j : Nat, elm F b j = elm Fo b j) := by
    rw [hFo]
    exact ⟨by intros; rfl, by intros; rfl⟩
  have hstk : STK x3 x3 := STK.rf
  have hspt : SPT x3 x4 x3 x4 := SPT.rf
  refine lv_aload_n hx hb dX13_readWhole_0 rfl (lv_at hl 0 rfl) ?_
  refine lv_iload_n hx hb dX13_readWhole_1 rfl (lv_at hl 1 rfl) ?_
  refine lv_iload_n hx hb dX13_readWhole_2 rfl (lv_at hl 2 rfl) ?_
  refine t_cVi (n := 2) (C := RX13) (T := TX13) (N := 37) (As := [.int p1, .int p2]) (rest := []) X hT (km20_X13_bounded l G tag L F hT.2.2.2 p0 p1 p2 x0 x1 x2 x3 x4 x5 m0 g0 (by omega) (by omega) mx0 gx0 pf0 mx1 gx1 pf1 mx2 gx2 pf2 (by omega) pf3 (by omega) pf4 (by omega) pf5 hkf) m0 g0 rfl rfl qw_564 qw_565 qw_566 qw_5 qw_567 ⟨rfl, by decide +kernel, by decide +kernel, by decide +kernel⟩ ⟨Nat.le_of_ble_eq_true rfl, Nat.le_of_ble_eq_true rfl⟩ hl rfl rfl (Nat.le_of_ble_eq_true rfl) dX13_readWhole_3 ⟨Nat.le_of_ble_eq_true rfl, Nat.le_of_ble_eq_true rfl⟩ (fun z9619 F H locs hT hz9619 => ?_)
  obtain ⟨hz9619, yz9619, ⟨soz9619, spz9619, faz9619, qsoz9619, qspz9619, qfaz9619, rsoz9619, rspz9619, rfaz9619, stz9619, ptz9619, hkf⟩⟩ := hz9619
  have pf0 := (yz9619.1 _ 4 (Or.inr (by decide)) (Or.inr (by decide)) (Or.inr (by decide))).trans pf0
  have pf1 := (yz9619.1 _ 28 (Or.inr (by decide)) (Or.inr (by decide)) (Or.inr (by decide))).trans pf1
  have pf2 := (yz9619.1 _ 29 (Or.inr (by decide)) (Or.inr (by decide)) (Or.inr (by decide))).trans pf2
  have pf4 := (yz9619.1 _ 8 (Or.inr (by decide)) (Or.inr (by decide)) (Or.inr (by decide))).trans pf4
  have hfr : (∀ b j : Nat, (tag b ≠ 46 ∨ j ≠ 8) → (tag b ≠ 46 ∨ j ≠ 9) → (tag b ≠ 46 ∨ j ≠ 10) → (tag b ≠ 46 ∨ j ≠ 11) → (tag b ≠ 46 ∨ j ≠ 12) → (tag b ≠ 46 ∨ j ≠ 13) → (tag b ≠ 46 ∨ j ≠ 14) → (tag b ≠ 46 ∨ j ≠ 15) → fld F b j = fld Fo b j) ∧ (∀ b j : Nat, elm F b j = elm Fo b j) := ⟨fun b j n46_8 n46_9 n46_10 n46_11 n46_12 n46_13 n46_14 n46_15 => (yz9619.1 b j n46_9 n46_13 n46_14).trans (hfr.1 b j n46_8 n46_9 n46_10 n46_11 n46_12 n46_13 n46_14 n46_15), fun b j  => (yz9619.2 b j ).trans (hfr.2 b j )⟩
  have hstk := STK.tr hstk stz9619
  have hspt := SPT.tr hspt ptz9619
  refine lv_istore_n (lv' := [(3, .int z9619), (0, .ref p0), (1, .int p1), (2, .int p2)]) hx hb dX13_readWhole_6 rfl hl (by decide) rfl (fun ls hl => ?_)
  refine lv_aload_n hx hb dX13_readWhole_7 rfl (lv_at hl 1 rfl) ?_
  refine t_cVv (n := 0) (C := RX13) (T := TX13) (N := 37) (As := []) (rest := []) X hT (km14_X13_goesOn l G tag L F hT.2.2.2 p0 x0 x1 x2 soz9619 spz9619 faz9619 m0 g0 mx0 gx0 pf0 mx1 gx1 pf1 mx2 gx2 pf2 (by omega) qsoz9619 (by omega) qspz9619 (by omega) qfaz9619 hkf) m0 g0 rfl rfl qw_508 qw_509 qw_510 qw_5 qw_511 ⟨rfl, by decide +kernel, by decide +kernel, by decide +kernel⟩ ⟨Nat.le_of_ble_eq_true rfl, Nat.le_of_ble_eq_true rfl⟩ hl rfl rfl (Nat.le_of_ble_eq_true rfl) dX13_readWhole_8 ⟨Nat.le_of_ble_eq_true rfl, Nat.le_of_ble_eq_true rfl⟩ (fun F H locs hT hz9620 => ?_)
  obtain ⟨yz9620, ⟨soz9620, spz9620, faz9620, qsoz9620, qspz9620, qfaz9620, rsoz9620, rspz9620, rfaz9620, stz9620, ptz9620, hkf⟩⟩ := hz9620
  have pf0 := (yz9620.1 _ 4 (Or.inr (by decide)) (Or.inr (by decide)) (Or.inr (by decide)) (Or.inr (by decide)) (Or.inr (by decide)) (Or.inr (by decide))).trans pf0
  have pf1 := (yz9620.1 _ 28 (Or.inr (by decide)) (Or.inr (by decide)) (Or.inr (by decide)) (Or.inr (by decide)) (Or.inr (by decide)) (Or.inr (by decide))).trans pf1
  have pf2 := (yz9620.1 _ 29 (Or.inr (by decide)) (Or.inr (by decide)) (Or.inr (by decide)) (Or.inr (by decide)) (Or.inr (by decide)) (Or.inr (by decide))).trans pf2
  have qfaz9619 := (yz9620.1 _ 13 (Or.inr (by decide)) (Or.inr (by decide)) (Or.inr (by decide)) (Or.inr (by decide)) (Or.inr (by decide)) (Or.inr (by decide))).trans qfaz9619
  have hfr : (∀ b j : Nat, (tag b ≠ 46 ∨ j ≠ 8) → (tag b ≠ 46 ∨ j ≠ 9) → (tag b ≠ 46 ∨ j ≠ 10) → (tag b ≠ 46 ∨ j ≠ 11) → (tag b ≠ 46 ∨ j ≠ 12) → (tag b ≠ 46 ∨ j ≠ 13) → (tag b ≠ 46 ∨ j ≠ 14) → (tag b ≠ 46 ∨ j ≠ 15) → fld F b j = fld Fo b j) ∧ (∀ b j : Nat, elm F b j = elm Fo b j) := ⟨fun b j n46_8 n46_9 n46_10 n46_11 n46_12 n46_13 n46_14 n46_15 => (yz9620.1 b j n46_8 n46_9 n46_10 n46_11 n46_12 n46_15).trans (hfr.1 b j n46_8 n46_9 n46_10 n46_11 n46_12 n46_13 n46_14 n46_15), fun b j  => (yz9620.2 b j ).trans (hfr.2 b j )⟩
  have hstk := STK.tr hstk stz9620
  have hspt := SPT.tr hspt ptz9620
  refine lv_iload_n hx hb dX13_readWhole_11 rfl (lv_at hl 0 rfl) ?_
  exact t_iret hQ X hT (⟨(by omega), hfr, ⟨soz9620, spz9620, faz9620, qsoz9620, qspz9620, qfaz9620, (by omega), (by omega), (by omega), hstk, hspt, hkf⟩⟩) (Nat.le_of_ble_eq_true rfl) (Nat.le_of_ble_eq_true rfl) dX13_readWhole_12
set_option maxHeartbeats 4000000 in
set_option maxRecDepth 100000 in
theorem km22_X13_readSign (l : Launch) (G : KG) (tag : Nat → Nat) (L : List Nat) (Fo : Nat → va_E) (ho : okT G ttC tag L Fo) (p0 : Nat) (p1 : Int32) (x0 : Nat) (x1 : Nat) (x2 : Nat) (x3 : Int32) (x4 : Int32) (x5 : Int32) (m0 : p0 ∈ L) (g0 : tag p0 = 46) (h1 : 0 ≤ p1.toInt ∧ p1.toInt ≤ 1) (mx0 : x0 ∈ L) (gx0 : tag x0 = 44) (pf0 : fld Fo p0 4 = .ref x0) (mx1 : x1 ∈ L) (gx1 : tag x1 = 35) (pf1 : fld Fo x0 28 = .ref x1) (mx2 : x2 ∈ L) (gx2 : tag x2 = 36) (pf2 : fld Fo x0 29 = .ref x2) (hx3 : 0 ≤ x3.toInt ∧ x3.toInt ≤ 5) (pf3 : fld Fo p0 9 = .int x3) (hx4 : 0 ≤ x4.toInt ∧ x4.toInt ≤ 1000) (pf4 : fld Fo p0 8 = .int x4) (hx5 : 0 ≤ x5.toInt ∧ x5.toInt ≤ 7) (pf5 : fld Fo p0 13 = .int x5) (hrel : MSR Fo x1 x2) (hkf : KF x3 x5) : TMv l yX13_readSign cX13_readSign 4 { frames := 8, cells := 0, slots := 0, locals := 171 } G ttC tag L Fo [.ref p0, .int p1] (fun F1 => ((∀ b j : Nat, (tag b ≠ 46 ∨ j ≠ 8) → (tag b ≠ 46 ∨ j ≠ 9) → (tag b ≠ 46 ∨ j ≠ 10) → (tag b ≠ 46 ∨ j ≠ 11) → (tag b ≠ 46 ∨ j ≠ 12) → (tag b ≠ 46 ∨ j ≠ 13) → (tag b ≠ 46 ∨ j ≠ 14) → (tag b ≠ 46 ∨ j ≠ 15) → fld F1 b j = fld Fo b j) ∧ (∀ b j : Nat, tag b ≠ 33 → elm F1 b j = elm Fo b j)) ∧ (MSR F1 x1 x2) ∧ (∃ so sp fa : Int32, fld F1 p0 9 = .int so ∧ fld F1 p0 8 = .int sp ∧ fld F1 p0 13 = .int fa ∧ (0 ≤ so.toInt ∧ so.toInt ≤ 5) ∧ (0 ≤ sp.toInt ∧ sp.toInt ≤ 1000) ∧ (0 ≤ fa.toInt ∧ fa.toInt ≤ 7) ∧ STK x3 so ∧ SPT x3 x4 so sp ∧ KF so fa)) := by
  refine t_bodyv (y := yX13_readSign) (cd := cX13_readSign) (mL := 4) (rm := { frames := 8, cells := 0, slots := 0, locals := 171 }) (av := [.ref p0, .int p1]) (by decide) (Nat.le_of_ble_eq_true rfl) ho ?_
  intro p e s m args below meth c ls A Q hQ X hT hl
  have hx := X.1.1
  have hb := X.1.2.1
  have hl : lv_has ls 4 [(0, .ref p0), (1, .int p1)] := hl
  obtain ⟨F, hFo⟩ : ∃ F : Nat → va_E, F = Fo := ⟨_, rfl⟩
  rw [← hFo] at hT pf0 pf1 pf2 pf3 pf4 pf5 hrel
  have hfr : (∀ b j : Nat, (tag b ≠ 46 ∨ j ≠ 8) → (tag b ≠ 46 ∨ j ≠ 9) → (tag b ≠ 46 ∨ j ≠ 10) → (tag b ≠ 46 ∨ j ≠ 11) → (tag b ≠ 46 ∨ j ≠ 12) → (tag b ≠ 46 ∨ j ≠ 13) → (tag b ≠ 46 ∨ j ≠ 14) → (tag b ≠ 46 ∨ j ≠ 15) → fld F b j = fld Fo b j) ∧ (∀ b j : Nat, tag b ≠ 33 → elm F b j = elm Fo b j) := by
    rw [hFo]
    exact ⟨by intros; rfl, by intros; rfl⟩
  have hstk : STK x3 x3 := STK.rf
  have hspt : SPT x3 x4 x3 x4 := SPT.rf
  have K54 : ∀ (z10078 : Int32) (z10079 : Int32) (z10080 : Int32) (z10081 : Int32) (z10082 : Int32) (F : Nat → va_E) (H : Heap) (locs : List Loc) (ls : Array Slot), (0 ≤ z10078.toInt ∧ z10078.toInt ≤ 5) → (0 ≤ z10079.toInt ∧ z10079.toInt ≤ 12) → (0 ≤ z10080.toInt ∧ z10080.toInt ≤ 1000) → (0 ≤ z10081.toInt ∧ z10081.toInt ≤ 5) → (0 ≤ z10082.toInt ∧ z10082.toInt ≤ 7) → TH G ttC A s tag L F H locs → ((∀ b j : Nat, (tag b ≠ 46 ∨ j ≠ 8) → (tag b ≠ 46 ∨ j ≠ 9) → (tag b ≠ 46 ∨ j ≠ 10) → (tag b ≠ 46 ∨ j ≠ 11) → (tag b ≠ 46 ∨ j ≠ 12) → (tag b ≠ 46 ∨ j ≠ 13) → (tag b ≠ 46 ∨ j ≠ 14) → (tag b ≠ 46 ∨ j ≠ 15) → fld F b j = fld Fo b j) ∧ (∀ b j : Nat, tag b ≠ 33 → elm F b j = elm Fo b j)) → MSR F x1 x2 → (fld F p0 4 = .ref x0) → (fld F x0 28 = .ref x1) → (fld F x0 29 = .ref x2) → (fld F x0 0 = .int z10079) → (fld F p0 8 = .int z10080) → (fld F p0 9 = .int z10081) → (fld F p0 13 = .int z10082) → (STK x3 z10081) → (SPT x3 x4 z10081 z10080) → (KF z10081 z10082) → lv_has ls 4 [(0, .ref p0), (1, .int p1), (2, .int z10078)] → W p l e { frames := 8, cells := 0, slots := 0, locals := 171 } s m args below meth c H locs 0 0 Q (F0 m 54 ls []) := by
    intro z10078 z10079 z10080 z10081 z10082 F H locs ls rz10078 rz10079 rz10080 rz10081 rz10082 hT hfr hrel pf0 pf1 pf2 qz10079 qz10080 qz10081 qz10082 hstk hspt hkf hl
    refine lv_aload_n hx hb dX13_readSign_54 rfl (lv_at hl 0 rfl) ?_
    refine t_cVv (n := 0) (C := RX13) (T := TX13) (N := 37) (As := []) (rest := []) X hT (km14_X13_goesOn l G tag L F hT.2.2.2 p0 x0 x1 x2 z10081 z10080 z10082 m0 g0 mx0 gx0 pf0 mx1 gx1 pf1 mx2 gx2 pf2 (by omega) qz10081 (by omega) qz10080 (by omega) qz10082 hkf) m0 g0 rfl rfl qw_508 qw_509 qw_510 qw_5 qw_511 ⟨rfl, by decide +kernel, by decide +kernel, by decide +kernel⟩ ⟨Nat.le_of_ble_eq_true rfl, Nat.le_of_ble_eq_true rfl⟩ hl rfl rfl (Nat.le_of_ble_eq_true rfl) dX13_readSign_55 ⟨Nat.le_of_ble_eq_true rfl, Nat.le_of_ble_eq_true rfl⟩ (fun F H locs hT hz10083 => ?_)
    obtain ⟨yz10083, ⟨soz10083, spz10083, faz10083, qsoz10083, qspz10083, qfaz10083, rsoz10083, rspz10083, rfaz10083, stz10083, ptz10083, hkf⟩⟩ := hz10083
    have qz10079 := (yz10083.1 _ 0 (Or.inr (by decide)) (Or.inr (by decide)) (Or.inr (by decide)) (Or.inr (by decide)) (Or.inr (by decide)) (Or.inr (by decide))).trans qz10079
    have qz10082 := (yz10083.1 _ 13 (Or.inr (by decide)) (Or.inr (by decide)) (Or.inr (by decide)) (Or.inr (by decide)) (Or.inr (by decide)) (Or.inr (by decide))).trans qz10082
    have pf0 := (yz10083.1 _ 4 (Or.inr (by decide)) (Or.inr (by decide)) (Or.inr (by decide)) (Or.inr (by decide)) (Or.inr (by decide)) (Or.inr (by decide))).trans pf0
    have pf1 := (yz10083.1 _ 28 (Or.inr (by decide)) (Or.inr (by decide)) (Or.inr (by decide)) (Or.inr (by decide)) (Or.inr (by decide)) (Or.inr (by decide))).trans pf1
    have pf2 := (yz10083.1 _ 29 (Or.inr (by decide)) (Or.inr (by decide)) (Or.inr (by decide)) (Or.inr (by decide)) (Or.inr (by decide)) (Or.inr (by decide))).trans pf2
    have hfr : (∀ b j : Nat, (tag b ≠ 46 ∨ j ≠ 8) → (tag b ≠ 46 ∨ j ≠ 9) → (tag b ≠ 46 ∨ j ≠ 10) → (tag b ≠ 46 ∨ j ≠ 11) → (tag b ≠ 46 ∨ j ≠ 12) → (tag b ≠ 46 ∨ j ≠ 13) → (tag b ≠ 46 ∨ j ≠ 14) → (tag b ≠ 46 ∨ j ≠ 15) → fld F b j = fld Fo b j) ∧ (∀ b j : Nat, tag b ≠ 33 → elm F b j = elm Fo b j) := ⟨fun b j n46_8 n46_9 n46_10 n46_11 n46_12 n46_13 n46_14 n46_15 => (yz10083.1 b j n46_8 n46_9 n46_10 n46_11 n46_12 n46_15).trans (hfr.1 b j n46_8 n46_9 n46_10 n46_11 n46_12 n46_13 n46_14 n46_15), fun b j a33 => (yz10083.2 b j ).trans (hfr.2 b j a33)⟩
    have hrel := msr_of (fun j => yz10083.2 _ j ) (fun j => yz10083.2 _ j ) hrel
    have hstk := STK.tr hstk stz10083
    have hspt := SPT.tr hspt ptz10083
    refine lv_aload_n hx hb dX13_readSign_58 rfl (lv_at hl 0 rfl) ?_
    refine lv_iconst (v := 0) hx hb dX13_readSign_59 (by decide) ?_
    refine lv_sipush (v := 999) hx hb dX13_readSign_60 (by decide) ?_
    refine t_cVi (n := 2) (C := RX13) (T := TX13) (N := 37) (As := [.int 0, .int 999]) (rest := []) X hT (km21_X13_readWhole l G tag L F hT.2.2.2 p0 0 999 x0 x1 x2 soz10083 spz10083 faz10083 m0 g0 (by decide) (by decide) mx0 gx0 pf0 mx1 gx1 pf1 mx2 gx2 pf2 (by omega) qsoz10083 (by omega) qspz10083 (by omega) qfaz10083 hkf) m0 g0 rfl rfl qw_560 qw_561 qw_562 qw_5 qw_563 ⟨rfl, by decide +kernel, by decide +kernel, by decide +kernel⟩ ⟨Nat.le_of_ble_eq_true rfl, Nat.le_of_ble_eq_true rfl⟩ hl rfl rfl (Nat.le_of_ble_eq_true rfl) dX13_readSign_63 ⟨Nat.le_of_ble_eq_true rfl, Nat.le_of_ble_eq_true rfl⟩ (fun z10084 F H locs hT hz10084 => ?_)
    obtain ⟨hz10084, yz10084, ⟨soz10084, spz10084, faz10084, qsoz10084, qspz10084, qfaz10084, rsoz10084, rspz10084, rfaz10084, stz10084, ptz10084, hkf⟩⟩ := hz10084
    have qz10079 := (yz10084.1 _ 0 (Or.inr (by decide)) (Or.inr (by decide)) (Or.inr (by decide)) (Or.inr (by decide)) (Or.inr (by decide)) (Or.inr (by decide)) (Or.inr (by decide)) (Or.inr (by decide))).trans qz10079
    have pf0 := (yz10084.1 _ 4 (Or.inr (by decide)) (Or.inr (by decide)) (Or.inr (by decide)) (Or.inr (by decide)) (Or.inr (by decide)) (Or.inr (by decide)) (Or.inr (by decide)) (Or.inr (by decide))).trans pf0
    have pf1 := (yz10084.1 _ 28 (Or.inr (by decide)) (Or.inr (by decide)) (Or.inr (by decide)) (Or.inr (by decide)) (Or.inr (by decide)) (Or.inr (by decide)) (Or.inr (by decide)) (Or.inr (by decide))).trans pf1
    have pf2 := (yz10084.1 _ 29 (Or.inr (by decide)) (Or.inr (by decide)) (Or.inr (by decide)) (Or.inr (by decide)) (Or.inr (by decide)) (Or.inr (by decide)) (Or.inr (by decide)) (Or.inr (by decide))).trans pf2
    have hfr : (∀ b j : Nat, (tag b ≠ 46 ∨ j ≠ 8) → (tag b ≠ 46 ∨ j ≠ 9) → (tag b ≠ 46 ∨ j ≠ 10) → (tag b ≠ 46 ∨ j ≠ 11) → (tag b ≠ 46 ∨ j ≠ 12) → (tag b ≠ 46 ∨ j ≠ 13) → (tag b ≠ 46 ∨ j ≠ 14) → (tag b ≠ 46 ∨ j ≠ 15) → fld F b j = fld Fo b j) ∧ (∀ b j : Nat, tag b ≠ 33 → elm F b j = elm Fo b j) := ⟨fun b j n46_8 n46_9 n46_10 n46_11 n46_12 n46_13 n46_14 n46_15 => (yz10084.1 b j n46_8 n46_9 n46_10 n46_11 n46_12 n46_13 n46_14 n46_15).trans (hfr.1 b j n46_8 n46_9 n46_10 n46_11 n46_12 n46_13 n46_14 n46_15), fun b j a33 => (yz10084.2 b j ).trans (hfr.2 b j a33)⟩
    have hrel := msr_of (fun j => yz10084.2 _ j ) (fun j => yz10084.2 _ j ) hrel
    have hstk := STK.tr hstk stz10084
    have hspt := SPT.tr hspt ptz10084
    refine lv_istore_n (lv' := [(3, .int z10084), (0, .ref p0), (1, .int p1), (2, .int z10078)]) hx hb dX13_readSign_66 rfl hl (by decide) rfl (fun ls hl => ?_)
    refine lv_aload_n hx hb dX13_readSign_67 rfl (lv_at hl 1 rfl) ?_
    refine t_get (C := RX13) (T := TX13) (N := 37) X hT m0 g0 rfl rfl 9 (by decide) qw_478 inlX13 rfl dX13_readSign_68 (fun v10085 hv10085 ov10085 => ?_)
    obtain rfl : v10085 = .int soz10084 := hv10085.symm.trans qsoz10084
    refine lv_iconst (v := 5) hx hb dX13_readSign_71 (by decide) ?_
    refine lv_icmp_ne (tgt := 76) hx hb dX13_readSign_72 (by decide) (fun c10086 => ?_) (fun c10086 => ?_)
    · have w10087 := cv_ne (rfl : soz10084.toInt = soz10084.toInt) (by decide : (5 : Int32).toInt = 5) c10086
      refine lv_iload_n hx hb dX13_readSign_76 rfl (lv_at hl 2 rfl) ?_
      refine lv_if_eq (tgt := 93) hx hb dX13_readSign_77 (by decide) (fun c10088 => ?_) (fun c10088 => ?_)
      · have w10089 := cv_eq (rfl : p1.toInt = p1.toInt) (by decide : (0 : Int32).toInt = 0) c10088
        refine lv_aload_n hx hb dX13_readSign_93 rfl (lv_at hl 1 rfl) ?_
        refine t_get (C := RX13) (T := TX13) (N := 37) X hT m0 g0 rfl rfl 4 (by decide) qw_477 inlX13 rfl dX13_readSign_94 (fun v10090 hv10090 ov10090 => ?_)
        obtain rfl : v10090 = .ref x0 := hv10090.symm.trans pf0
        refine t_getN (C := RX12) (T := TX12) (N := 31) X hT mx0 gx0 rfl rfl 26 (by decide) (List.mem_of_getElem? (i := 30) rfl) inlX12 rfl dX13_readSign_97 (fun v10091 hv10091 ov10091 => ?_)
        obtain ⟨b10092, rfl, mb10092, gb10092⟩ := okV_r ov10091
        have gb10092 : tag b10092 = 33 := tg_of gb10092
        refine lv_iload_n hx hb dX13_readSign_100 rfl (lv_at hl 3 rfl) ?_
        refine lv_iload_n hx hb dX13_readSign_101 rfl (lv_at hl 0 rfl) ?_
        refine t_ist X hT mb10092 gb10092 rfl (by omega) (show (-2147483648) ≤ (z10084 : Int32).toInt ∧ (z10084 : Int32).toInt ≤ 2147483647 from (rg_all _)) dX13_readSign_102 (fun F H locs hT v10093 h1v10093 h2v10093 => ?_)
        have qz10079 := (h2v10093 _ _).trans qz10079
        have pf0 := (h2v10093 _ _).trans pf0
        have pf1 := (h2v10093 _ _).trans pf1
        have pf2 := (h2v10093 _ _).trans pf2
        have qsoz10084 := (h2v10093 _ _).trans qsoz10084
        have qspz10084 := (h2v10093 _ _).trans qspz10084
        have qfaz10084 := (h2v10093 _ _).trans qfaz10084
        have hv10091 := (h2v10093 _ _).trans hv10091
        have hfr : (∀ b j : Nat, (tag b ≠ 46 ∨ j ≠ 8) → (tag b ≠ 46 ∨ j ≠ 9) → (tag b ≠ 46 ∨ j ≠ 10) → (tag b ≠ 46 ∨ j ≠ 11) → (tag b ≠ 46 ∨ j ≠ 12) → (tag b ≠ 46 ∨ j ≠ 13) → (tag b ≠ 46 ∨ j ≠ 14) → (tag b ≠ 46 ∨ j ≠ 15) → fld F b j = fld Fo b j) ∧ (∀ b j : Nat, tag b ≠ 33 → elm F b j = elm Fo b j) := ⟨fun b j n46_8 n46_9 n46_10 n46_11 n46_12 n46_13 n46_14 n46_15 => (h2v10093 b j).trans (hfr.1 b j n46_8 n46_9 n46_10 n46_11 n46_12 n46_13 n46_14 n46_15), fun b j a33 => (h1v10093 b j (Or.inl (at_ne gb10092 a33))).trans (hfr.2 b j a33)⟩
        have hrel := msr_of (fun j => h1v10093 _ j (Or.inl (tne gx1 gb10092 (by decide)))) (fun j => h1v10093 _ j (Or.inl (tne gx2 gb10092 (by decide)))) hrel
        exact t_vret hQ X hT ⟨hfr, hrel, ⟨soz10084, spz10084, faz10084, qsoz10084, qspz10084, qfaz10084, (by omega), (by omega), (by omega), hstk, hspt, hkf⟩⟩ (Nat.le_of_ble_eq_true rfl) (Nat.le_of_ble_eq_true rfl) dX13_readSign_103
      · have w10094 := cv_ne (rfl : p1.toInt = p1.toInt) (by decide : (0 : Int32).toInt = 0) c10088
        refine lv_aload_n hx hb dX13_readSign_80 rfl (lv_at hl 1 rfl) ?_
        refine t_get (C := RX13) (T := TX13) (N := 37) X hT m0 g0 rfl rfl 4 (by decide) qw_477 inlX13 rfl dX13_readSign_81 (fun v10095 hv10095 ov10095 => ?_)
        obtain rfl : v10095 = .ref x0 := hv10095.symm.trans pf0
        refine t_getN (C := RX12) (T := TX12) (N := 31) X hT mx0 gx0 rfl rfl 25 (by decide) (List.mem_of_getElem? (i := 29) rfl) inlX12 rfl dX13_readSign_84 (fun v10096 hv10096 ov10096 => ?_)
        obtain ⟨b10097, rfl, mb10097, gb10097⟩ := okV_r ov10096
        have gb10097 : tag b10097 = 33 := tg_of gb10097
        refine lv_iload_n hx hb dX13_readSign_87 rfl (lv_at hl 3 rfl) ?_
        refine lv_iload_n hx hb dX13_readSign_88 rfl (lv_at hl 0 rfl) ?_
        refine t_ist X hT mb10097 gb10097 rfl (by omega) (show (-2147483648) ≤ (z10084 : Int32).toInt ∧ (z10084 : Int32).toInt ≤ 2147483647 from (rg_all _)) dX13_readSign_89 (fun F H locs hT v10098 h1v10098 h2v10098 => ?_)
        have qz10079 := (h2v10098 _ _).trans qz10079
        have pf0 := (h2v10098 _ _).trans pf0
        have pf1 := (h2v10098 _ _).trans pf1
        have pf2 := (h2v10098 _ _).trans pf2
        have qsoz10084 := (h2v10098 _ _).trans qsoz10084
        have qspz10084 := (h2v10098 _ _).trans qspz10084
        have qfaz10084 := (h2v10098 _ _).trans qfaz10084
        have hv10096 := (h2v10098 _ _).trans hv10096
        have hfr : (∀ b j : Nat, (tag b ≠ 46 ∨ j ≠ 8) → (tag b ≠ 46 ∨ j ≠ 9) → (tag b ≠ 46 ∨ j ≠ 10) → (tag b ≠ 46 ∨ j ≠ 11) → (tag b ≠ 46 ∨ j ≠ 12) → (tag b ≠ 46 ∨ j ≠ 13) → (tag b ≠ 46 ∨ j ≠ 14) → (tag b ≠ 46 ∨ j ≠ 15) → fld F b j = fld Fo b j) ∧ (∀ b j : Nat, tag b ≠ 33 → elm F b j = elm Fo b j) := ⟨fun b j n46_8 n46_9 n46_10 n46_11 n46_12 n46_13 n46_14 n46_15 => (h2v10098 b j).trans (hfr.1 b j n46_8 n46_9 n46_10 n46_11 n46_12 n46_13 n46_14 n46_15), fun b j a33 => (h1v10098 b j (Or.inl (at_ne gb10097 a33))).trans (hfr.2 b j a33)⟩
        have hrel := msr_of (fun j => h1v10098 _ j (Or.inl (tne gx1 gb10097 (by decide)))) (fun j => h1v10098 _ j (Or.inl (tne gx2 gb10097 (by decide)))) hrel
        refine lv_goto (tgt := 103) hx hb dX13_readSign_90 (by decide) ?_
        exact t_vret hQ X hT ⟨hfr, hrel, ⟨soz10084, spz10084, faz10084, qsoz10084, qspz10084, qfaz10084, (by omega), (by omega), (by omega), hstk, hspt, hkf⟩⟩ (Nat.le_of_ble_eq_true rfl) (Nat.le_of_ble_eq_true rfl) dX13_readSign_103
    · have w10099 := cv_eq (rfl : soz10084.toInt = soz10084.toInt) (by decide : (5 : Int32).toInt = 5) c10086
      exact t_vret hQ X hT ⟨hfr, hrel, ⟨soz10084, spz10084, faz10084, qsoz10084, qspz10084, qfaz10084, (by omega), (by omega), (by omega), hstk, hspt, hkf⟩⟩ (Nat.le_of_ble_eq_true rfl) (Nat.le_of_ble_eq_true rfl) dX13_readSign_75
  have K45 : ∀ (z10100 : Int32) (z10101 : Int32) (z10102 : Int32) (z10103 : Int32) (z10104 : Int32) (z10105 : Int32) (F : Nat → va_E) (H : Heap) (locs : List Loc) (ls : Array Slot), (0 ≤ z10100.toInt ∧ z10100.toInt ≤ 5) → (1 ≤ z10102.toInt ∧ z10102.toInt ≤ 12) → (0 ≤ z10103.toInt ∧ z10103.toInt ≤ 1000) → (0 ≤ z10104.toInt ∧ z10104.toInt ≤ 4) → (0 ≤ z10105.toInt ∧ z10105.toInt ≤ 7) → TH G ttC A s tag L F H locs → ((∀ b j : Nat, (tag b ≠ 46 ∨ j ≠ 8) → (tag b ≠ 46 ∨ j ≠ 9) → (tag b ≠ 46 ∨ j ≠ 10) → (tag b ≠ 46 ∨ j ≠ 11) → (tag b ≠ 46 ∨ j ≠ 12) → (tag b ≠ 46 ∨ j ≠ 13) → (tag b ≠ 46 ∨ j ≠ 14) → (tag b ≠ 46 ∨ j ≠ 15) → fld F b j = fld Fo b j) ∧ (∀ b j : Nat, tag b ≠ 33 → elm F b j = elm Fo b j)) → MSR F x1 x2 → (fld F p0 4 = .ref x0) → (fld F x0 28 = .ref x1) → (fld F x0 29 = .ref x2) → (fld F x0 0 = .int z10102) → (fld F p0 8 = .int z10103) → (fld F p0 9 = .int z10104) → (fld F p0 13 = .int z10105) → (STK x3 z10104) → (SPT x3 x4 z10104 z10103) → (KF z10104 z10105) → lv_has ls 4 [(0, .ref p0), (1, .int p1), (2, .int z10100)] → W p l e { frames := 8, cells := 0, slots := 0, locals := 171 } s m args below meth c H locs 0 0 Q (F0 m 45 ls [.int z10101]) := by
    intro z10100 z10101 z10102 z10103 z10104 z10105 F H locs ls rz10100 rz10102 rz10103 rz10104 rz10105 hT hfr hrel pf0 pf1 pf2 qz10102 qz10103 qz10104 qz10105 hstk hspt hkf hl
    have rz10101 := rg_all z10101
    refine lv_iconst (v := (-1)) hx hb dX13_readSign_45 (by decide) ?_
    refine lv_icmp_eq (tgt := 54) hx hb dX13_readSign_46 (by decide) (fun c10106 => ?_) (fun c10106 => ?_)
    · have w10107 := cv_eq (rfl : z10101.toInt = z10101.toInt) (by decide : ((-1) : Int32).toInt = (-1)) c10106
      exact K54 z10100 z10102 z10103 z10104 z10105 _ _ _ _ (by omega) (by omega) (by omega) (by omega) (by omega) hT hfr hrel pf0 pf1 pf2 qz10102 qz10103 qz10104 qz10105 hstk hspt hkf (lv_sub hl [0, 1, 2] rfl)
    · have w10108 := cv_ne (rfl : z10101.toInt = z10101.toInt) (by decide : ((-1) : Int32).toInt = (-1)) c10106
      refine lv_aload_n hx hb dX13_readSign_49 rfl (lv_at hl 0 rfl) ?_
      refine lv_iconst (v := 3) hx hb dX13_readSign_50 (by decide) ?_
      refine t_cVv (n := 1) (C := RX13) (T := TX13) (N := 37) (As := [.int 3]) (rest := []) X hT (km10_X13_flaw l G tag L F hT.2.2.2 p0 3 x0 x1 x2 z10104 z10103 z10105 m0 g0 (by decide) mx0 gx0 pf0 mx1 gx1 pf1 mx2 gx2 pf2 (by omega) qz10104 (by omega) qz10103 (by omega) qz10105 hkf) m0 g0 rfl rfl qw_548 qw_549 qw_550 qw_5 qw_551 ⟨rfl, by decide +kernel, by decide +kernel, by decide +kernel⟩ ⟨Nat.le_of_ble_eq_true rfl, Nat.le_of_ble_eq_true rfl⟩ hl rfl rfl (Nat.le_of_ble_eq_true rfl) dX13_readSign_51 ⟨Nat.le_of_ble_eq_true rfl, Nat.le_of_ble_eq_true rfl⟩ (fun F H locs hT hz10109 => ?_)
      obtain ⟨yz10109, ⟨soz10109, spz10109, faz10109, qsoz10109, qspz10109, qfaz10109, rsoz10109, rspz10109, rfaz10109, stz10109, ptz10109, hkf, pxz10109_0⟩⟩ := hz10109
      have qz10102 := (yz10109.1 _ 0 (Or.inr (by decide)) (Or.inr (by decide)) (Or.inr (by decide))).trans qz10102
      have qz10103 := (yz10109.1 _ 8 (Or.inr (by decide)) (Or.inr (by decide)) (Or.inr (by decide))).trans qz10103
      have pf0 := (yz10109.1 _ 4 (Or.inr (by decide)) (Or.inr (by decide)) (Or.inr (by decide))).trans pf0
      have pf1 := (yz10109.1 _ 28 (Or.inr (by decide)) (Or.inr (by decide)) (Or.inr (by decide))).trans pf1
      have pf2 := (yz10109.1 _ 29 (Or.inr (by decide)) (Or.inr (by decide)) (Or.inr (by decide))).trans pf2
      have hfr : (∀ b j : Nat, (tag b ≠ 46 ∨ j ≠ 8) → (tag b ≠ 46 ∨ j ≠ 9) → (tag b ≠ 46 ∨ j ≠ 10) → (tag b ≠ 46 ∨ j ≠ 11) → (tag b ≠ 46 ∨ j ≠ 12) → (tag b ≠ 46 ∨ j ≠ 13) → (tag b ≠ 46 ∨ j ≠ 14) → (tag b ≠ 46 ∨ j ≠ 15) → fld F b j = fld Fo b j) ∧ (∀ b j : Nat, tag b ≠ 33 → elm F b j = elm Fo b j) := ⟨fun b j n46_8 n46_9 n46_10 n46_11 n46_12 n46_13 n46_14 n46_15 => (yz10109.1 b j n46_9 n46_13 n46_14).trans (hfr.1 b j n46_8 n46_9 n46_10 n46_11 n46_12 n46_13 n46_14 n46_15), fun b j a33 => (yz10109.2 b j ).trans (hfr.2 b j a33)⟩
      have hrel := msr_of (fun j => yz10109.2 _ j ) (fun j => yz10109.2 _ j ) hrel
      have hstk := STK.tr hstk stz10109
      have hspt := SPT.tr hspt ptz10109
      exact K54 z10100 z10102 spz10109 soz10109 faz10109 _ _ _ _ (by omega) (by omega) (by omega) (by omega) (by omega) hT hfr hrel pf0 pf1 pf2 qz10102 qspz10109 qsoz10109 qfaz10109 hstk hspt hkf (lv_sub hl [0, 1, 2] rfl)
  refine lv_aload_n hx hb dX13_readSign_0 rfl (lv_at hl 0 rfl) ?_
  refine lv_iconst (v := 0) hx hb dX13_readSign_1 (by decide) ?_
  refine lv_iconst (v := 1) hx hb dX13_readSign_2 (by decide) ?_
  obtain ⟨z10110, qz10110, rz10110⟩ := t_fld hT mx0 gx0 rfl 0 rfl
  have rz10110 : 0 ≤ z10110.toInt ∧ z10110.toInt ≤ 12 := rz10110
  refine t_cVv (n := 2) (C := RX13) (T := TX13) (N := 37) (As := [.int 0, .int 1]) (rest := []) X hT (km15_X13_begins l G tag L F hT.2.2.2 p0 0 1 x0 x1 x2 x3 x4 x5 z10110 m0 g0 mx0 gx0 pf0 mx1 gx1 pf1 mx2 gx2 pf2 (by omega) pf3 (by omega) pf4 (by omega) pf5 (by omega) qz10110 hkf) m0 g0 rfl rfl qw_575 qw_576 qw_577 qw_5 qw_578 ⟨rfl, by decide +kernel, by decide +kernel, by decide +kernel⟩ ⟨Nat.le_of_ble_eq_true rfl, Nat.le_of_ble_eq_true rfl⟩ hl rfl rfl (Nat.le_of_ble_eq_true rfl) dX13_readSign_3 ⟨Nat.le_of_ble_eq_true rfl, Nat.le_of_ble_eq_true rfl⟩ (fun F H locs hT hz10111 => ?_)
  obtain ⟨yz10111, ⟨soz10111, spz10111, faz10111, qsoz10111, qspz10111, qfaz10111, rsoz10111, rspz10111, rfaz10111, stz10111, ptz10111, hkf, pxz10111_0⟩⟩ := hz10111
  have pf0 := (yz10111.1 _ 4 (Or.inr (by decide)) (Or.inr (by decide)) (Or.inr (by decide)) (Or.inr (by decide)) (Or.inr (by decide)) (Or.inr (by decide)) (Or.inr (by decide)) (Or.inr (by decide))).trans pf0
  have pf1 := (yz10111.1 _ 28 (Or.inr (by decide)) (Or.inr (by decide)) (Or.inr (by decide)) (Or.inr (by decide)) (Or.inr (by decide)) (Or.inr (by decide)) (Or.inr (by decide)) (Or.inr (by decide))).trans pf1
  have pf2 := (yz10111.1 _ 29 (Or.inr (by decide)) (Or.inr (by decide)) (Or.inr (by decide)) (Or.inr (by decide)) (Or.inr (by decide)) (Or.inr (by decide)) (Or.inr (by decide)) (Or.inr (by decide))).trans pf2
  have qz10110 := (yz10111.1 _ 0 (Or.inr (by decide)) (Or.inr (by decide)) (Or.inr (by decide)) (Or.inr (by decide)) (Or.inr (by decide)) (Or.inr (by decide)) (Or.inr (by decide)) (Or.inr (by decide))).trans qz10110
  have hfr : (∀ b j : Nat, (tag b ≠ 46 ∨ j ≠ 8) → (tag b ≠ 46 ∨ j ≠ 9) → (tag b ≠ 46 ∨ j ≠ 10) → (tag b ≠ 46 ∨ j ≠ 11) → (tag b ≠ 46 ∨ j ≠ 12) → (tag b ≠ 46 ∨ j ≠ 13) → (tag b ≠ 46 ∨ j ≠ 14) → (tag b ≠ 46 ∨ j ≠ 15) → fld F b j = fld Fo b j) ∧ (∀ b j : Nat, tag b ≠ 33 → elm F b j = elm Fo b j) := ⟨fun b j n46_8 n46_9 n46_10 n46_11 n46_12 n46_13 n46_14 n46_15 => (yz10111.1 b j n46_8 n46_9 n46_10 n46_11 n46_12 n46_13 n46_14 n46_15).trans (hfr.1 b j n46_8 n46_9 n46_10 n46_11 n46_12 n46_13 n46_14 n46_15), fun b j a33 => (yz10111.2 b j ).trans (hfr.2 b j a33)⟩
  have hrel := msr_of (fun j => yz10111.2 _ j ) (fun j => yz10111.2 _ j ) hrel
  have hstk := STK.tr hstk stz10111
  have hspt := SPT.tr hspt ptz10111
  have k10112 : (0 : Int32).toInt = 0 := by decide
  have k10113 : (1 : Int32).toInt = 1 := by decide
  refine lv_aload_n hx hb dX13_readSign_6 rfl (lv_at hl 0 rfl) ?_
  refine lv_iconst (v := 3) hx hb dX13_readSign_7 (by decide) ?_
  refine t_cVi (n := 1) (C := RX13) (T := TX13) (N := 37) (As := [.int 3]) (rest := []) X hT (km18_X13_known l G tag L F hT.2.2.2 p0 3 x0 x1 x2 soz10111 spz10111 faz10111 m0 g0 (by decide) mx0 gx0 pf0 mx1 gx1 pf1 mx2 gx2 pf2 (by omega) qsoz10111 (by omega) qspz10111 (by omega) qfaz10111 hrel hkf) m0 g0 rfl rfl qw_636 qw_637 qw_638 qw_5 qw_639 ⟨rfl, by decide +kernel, by decide +kernel, by decide +kernel⟩ ⟨Nat.le_of_ble_eq_true rfl, Nat.le_of_ble_eq_true rfl⟩ hl rfl rfl (Nat.le_of_ble_eq_true rfl) dX13_readSign_8 ⟨Nat.le_of_ble_eq_true rfl, Nat.le_of_ble_eq_true rfl⟩ (fun z10114 F H locs hT hz10114 => ?_)
  obtain ⟨hz10114, yz10114, hrel, ⟨soz10114, spz10114, faz10114, qsoz10114, qspz10114, qfaz10114, rsoz10114, rspz10114, rfaz10114, stz10114, ptz10114, hkf⟩⟩ := hz10114
  have pf0 := (yz10114.1 _ 4 (Or.inr (by decide)) (Or.inr (by decide)) (Or.inr (by decide))).trans pf0
  have pf1 := (yz10114.1 _ 28 (Or.inr (by decide)) (Or.inr (by decide)) (Or.inr (by decide))).trans pf1
  have pf2 := (yz10114.1 _ 29 (Or.inr (by decide)) (Or.inr (by decide)) (Or.inr (by decide))).trans pf2
  have qz10110 := (yz10114.1 _ 0 (Or.inr (by decide)) (Or.inr (by decide)) (Or.inr (by decide))).trans qz10110
  have qspz10111 := (yz10114.1 _ 8 (Or.inr (by decide)) (Or.inr (by decide)) (Or.inr (by decide))).trans qspz10111
  have hfr : (∀ b j : Nat, (tag b ≠ 46 ∨ j ≠ 8) → (tag b ≠ 46 ∨ j ≠ 9) → (tag b ≠ 46 ∨ j ≠ 10) → (tag b ≠ 46 ∨ j ≠ 11) → (tag b ≠ 46 ∨ j ≠ 12) → (tag b ≠ 46 ∨ j ≠ 13) → (tag b ≠ 46 ∨ j ≠ 14) → (tag b ≠ 46 ∨ j ≠ 15) → fld F b j = fld Fo b j) ∧ (∀ b j : Nat, tag b ≠ 33 → elm F b j = elm Fo b j) := ⟨fun b j n46_8 n46_9 n46_10 n46_11 n46_12 n46_13 n46_14 n46_15 => (yz10114.1 b j n46_9 n46_13 n46_14).trans (hfr.1 b j n46_8 n46_9 n46_10 n46_11 n46_12 n46_13 n46_14 n46_15), fun b j a33 => (yz10114.2 b j ).trans (hfr.2 b j a33)⟩
  have hstk := STK.tr hstk stz10114
  have hspt := SPT.tr hspt ptz10114
  refine lv_istore_n (lv' := [(2, .int z10114), (0, .ref p0), (1, .int p1)]) hx hb dX13_readSign_11 rfl hl (by decide) rfl (fun ls hl => ?_)
  refine lv_aload_n hx hb dX13_readSign_12 rfl (lv_at hl 1 rfl) ?_
  refine t_get (C := RX13) (T := TX13) (N := 37) X hT m0 g0 rfl rfl 9 (by decide) qw_478 inlX13 rfl dX13_readSign_13 (fun v10115 hv10115 ov10115 => ?_)
  obtain rfl : v10115 = .int soz10114 := hv10115.symm.trans qsoz10114
  refine lv_iconst (v := 5) hx hb dX13_readSign_16 (by decide) ?_
  refine lv_icmp_eq (tgt := 54) hx hb dX13_readSign_17 (by decide) (fun c10116 => ?_) (fun c10116 => ?_)
  · have w10117 := cv_eq (rfl : soz10114.toInt = soz10114.toInt) (by decide : (5 : Int32).toInt = 5) c10116
    exact K54 z10114 z10110 spz10114 soz10114 faz10114 _ _ _ _ (by omega) (by omega) (by omega) (by omega) (by omega) hT hfr hrel pf0 pf1 pf2 qz10110 qspz10114 qsoz10114 qfaz10114 hstk hspt hkf (lv_sub hl [1, 2, 0] rfl)
  · have w10118 := cv_ne (rfl : soz10114.toInt = soz10114.toInt) (by decide : (5 : Int32).toInt = 5) c10116
    have w10119 := (fun (h9 : soz10114.toInt ≠ 5) => pxz10111_0 (fun e9 => h9 (stz10114 e9))) (by omega)
    refine lv_iload_n hx hb dX13_readSign_20 rfl (lv_at hl 2 rfl) ?_
    refine lv_if_eq (tgt := 36) hx hb dX13_readSign_21 (by decide) (fun c10120 => ?_) (fun c10120 => ?_)
    · have w10121 := cv_eq (rfl : p1.toInt = p1.toInt) (by decide : (0 : Int32).toInt = 0) c10120
      refine lv_aload_n hx hb dX13_readSign_36 rfl (lv_at hl 1 rfl) ?_
      refine t_get (C := RX13) (T := TX13) (N := 37) X hT m0 g0 rfl rfl 4 (by decide) qw_477 inlX13 rfl dX13_readSign_37 (fun v10122 hv10122 ov10122 => ?_)
      obtain rfl : v10122 = .ref x0 := hv10122.symm.trans pf0
      refine t_getN (C := RX12) (T := TX12) (N := 31) X hT mx0 gx0 rfl rfl 26 (by decide) (List.mem_of_getElem? (i := 30) rfl) inlX12 rfl dX13_readSign_40 (fun v10123 hv10123 ov10123 => ?_)
      obtain ⟨b10124, rfl, mb10124, gb10124⟩ := okV_r ov10123
      have gb10124 : tag b10124 = 33 := tg_of gb10124
      refine lv_iload_n hx hb dX13_readSign_43 rfl (lv_at hl 0 rfl) ?_
      refine t_ild X hT mb10124 gb10124 rfl (by omega) dX13_readSign_44 (fun z10125 vz10125 rz10125 => ?_)
      have rz10125 : (-2147483648) ≤ z10125.toInt ∧ z10125.toInt ≤ 2147483647 := rz10125
      exact K45 z10114 z10125 z10110 spz10114 soz10114 faz10114 _ _ _ _ (by omega) (by omega) (by omega) (by omega) (by omega) hT hfr hrel pf0 pf1 pf2 qz10110 qspz10114 qsoz10114 qfaz10114 hstk hspt hkf (lv_sub hl [1, 2, 0] rfl)
    · have w10126 := cv_ne (rfl : p1.toInt = p1.toInt) (by decide : (0 : Int32).toInt = 0) c10120
      refine lv_aload_n hx hb dX13_readSign_24 rfl (lv_at hl 1 rfl) ?_
      refine t_get (C := RX13) (T := TX13) (N := 37) X hT m0 g0 rfl rfl 4 (by decide) qw_477 inlX13 rfl dX13_readSign_25 (fun v10127 hv10127 ov10127 => ?_)
      obtain rfl : v10127 = .ref x0 := hv10127.symm.trans pf0
      refine t_getN (C := RX12) (T := TX12) (N := 31) X hT mx0 gx0 rfl rfl 25 (by decide) (List.mem_of_getElem? (i := 29) rfl) inlX12 rfl dX13_readSign_28 (fun v10128 hv10128 ov10128 => ?_)
      obtain ⟨b10129, rfl, mb10129, gb10129⟩ := okV_r ov10128
      have gb10129 : tag b10129 = 33 := tg_of gb10129
      refine lv_iload_n hx hb dX13_readSign_31 rfl (lv_at hl 0 rfl) ?_
      refine t_ild X hT mb10129 gb10129 rfl (by omega) dX13_readSign_32 (fun z10130 vz10130 rz10130 => ?_)
      have rz10130 : (-2147483648) ≤ z10130.toInt ∧ z10130.toInt ≤ 2147483647 := rz10130
      refine lv_goto (tgt := 45) hx hb dX13_readSign_33 (by decide) ?_
      exact K45 z10114 z10130 z10110 spz10114 soz10114 faz10114 _ _ _ _ (by omega) (by omega) (by omega) (by omega) (by omega) hT hfr hrel pf0 pf1 pf2 qz10110 qspz10114 qsoz10114 qfaz10114 hstk hspt hkf (lv_sub hl [1, 2, 0] rfl)
set_option maxHeartbeats 4000000 in
set_option maxRecDepth 100000 in
theorem km23_X13_readKnown (l : Launch) (G : KG) (tag : Nat → Nat) (L : List Nat) (Fo : Nat → va_E) (ho : okT G ttC tag L Fo) (p0 : Nat) (p1 : Int32) (x0 : Nat) (x1 : Nat) (x2 : Nat) (x3 : Int32) (x4 : Int32) (x5 : Int32) (m0 : p0 ∈ L) (g0 : tag p0 = 46) (h1 : 3 ≤ p1.toInt ∧ p1.toInt ≤ 3) (mx0 : x0 ∈ L) (gx0 : tag x0 = 44) (pf0 : fld Fo p0 4 = .ref x0) (mx1 : x1 ∈ L) (gx1 : tag x1 = 35) (pf1 : fld Fo x0 28 = .ref x1) (mx2 : x2 ∈ L) (gx2 : tag x2 = 36) (pf2 : fld Fo x0 29 = .ref x2) (hx3 : 0 ≤ x3.toInt ∧ x3.toInt ≤ 5) (pf3 : fld Fo p0 9 = .int x3) (hx4 : 0 ≤ x4.toInt ∧ x4.toInt ≤ 1000) (pf4 : fld Fo p0 8 = .int x4) (hx5 : 0 ≤ x5.toInt ∧ x5.toInt ≤ 7) (pf5 : fld Fo p0 13 = .int x5) (hrel : MSR Fo x1 x2) (hkf : KF x3 x5) : TMi l yX13_readKnown cX13_readKnown 3 (some .int) { frames := 8, cells := 0, slots := 0, locals := 171 } G ttC tag L Fo [.ref p0, .int p1] (fun r F1 => (0 ≤ r.toInt ∧ r.toInt ≤ 5) ∧ ((∀ b j : Nat, (tag b ≠ 46 ∨ j ≠ 8) → (tag b ≠ 46 ∨ j ≠ 9) → (tag b ≠ 46 ∨ j ≠ 10) → (tag b ≠ 46 ∨ j ≠ 11) → (tag b ≠ 46 ∨ j ≠ 12) → (tag b ≠ 46 ∨ j ≠ 13) → (tag b ≠ 46 ∨ j ≠ 14) → (tag b ≠ 46 ∨ j ≠ 15) → fld F1 b j = fld Fo b j) ∧ (∀ b j : Nat, elm F1 b j = elm Fo b j)) ∧ (MSR F1 x1 x2) ∧ (∃ so sp fa : Int32, fld F1 p0 9 = .int so ∧ fld F1 p0 8 = .int sp ∧ fld F1 p0 13 = .int fa ∧ (0 ≤ so.toInt ∧ so.toInt ≤ 5) ∧ (0 ≤ sp.toInt ∧ sp.toInt ≤ 1000) ∧ (0 ≤ fa.toInt ∧ fa.toInt ≤ 7) ∧ STK x3 so ∧ SPT x3 x4 so sp ∧ KF so fa)) := by
  refine t_bodyi (y := yX13_readKnown) (cd := cX13_readKnown) (mL := 3) (rt := (some .int)) (rm := { frames := 8, cells := 0, slots := 0, locals := 171 }) (av := [.ref p0, .int p1]) (by decide) (Nat.le_of_ble_eq_true rfl) ho ?_
  intro p e s m args below meth c ls A Q hQ X hT hl
  have hx := X.1.1
  have hb := X.1.2.1
  have hl : lv_has ls 3 [(0, .ref p0), (1, .int p1)] := hl
  obtain ⟨F, hFo⟩ : ∃ F : Nat → va_E, F = Fo := ⟨_, rfl⟩
  rw [← hFo] at hT pf0 pf1 pf2 pf3 pf4 pf5 hrel
  have hfr : (∀ b j : Nat, (tag b ≠ 46 ∨ j ≠ 8) → (tag b ≠ 46 ∨ j ≠ 9) → (tag b ≠ 46 ∨ j ≠ 10) → (tag b ≠ 46 ∨ j ≠ 11) → (tag b ≠ 46 ∨ j ≠ 12) → (tag b ≠ 46 ∨ j ≠ 13) → (tag b ≠ 46 ∨ j ≠ 14) → (tag b ≠ 46 ∨ j ≠ 15) → fld F b j = fld Fo b j) ∧ (∀ b j : Nat, elm F b j = elm Fo b j) := by
    rw [hFo]
    exact ⟨by intros; rfl, by intros; rfl⟩
  have hstk : STK x3 x3 := STK.rf
  have hspt : SPT x3 x4 x3 x4 := SPT.rf
  refine lv_aload_n hx hb dX13_readKnown_0 rfl (lv_at hl 0 rfl) ?_
  refine lv_iload_n hx hb dX13_readKnown_1 rfl (lv_at hl 1 rfl) ?_
  refine t_cVi (n := 1) (C := RX13) (T := TX13) (N := 37) (As := [.int p1]) (rest := []) X hT (km18_X13_known l G tag L F hT.2.2.2 p0 p1 x0 x1 x2 x3 x4 x5 m0 g0 (by omega) mx0 gx0 pf0 mx1 gx1 pf1 mx2 gx2 pf2 (by omega) pf3 (by omega) pf4 (by omega) pf5 hrel hkf) m0 g0 rfl rfl qw_636 qw_637 qw_638 qw_5 qw_639 ⟨rfl, by decide +kernel, by decide +kernel, by decide +kernel⟩ ⟨Nat.le_of_ble_eq_true rfl, Nat.le_of_ble_eq_true rfl⟩ hl rfl rfl (Nat.le_of_ble_eq_true rfl) dX13_readKnown_2 ⟨Nat.le_of_ble_eq_true rfl, Nat.le_of_ble_eq_true rfl⟩ (fun z10163 F H locs hT hz10163 => ?_)
  obtain ⟨hz10163, yz10163, hrel, ⟨soz10163, spz10163, faz10163, qsoz10163, qspz10163, qfaz10163, rsoz10163, rspz10163, rfaz10163, stz10163, ptz10163, hkf⟩⟩ := hz10163
  have pf0 := (yz10163.1 _ 4 (Or.inr (by decide)) (Or.inr (by decide)) (Or.inr (by decide))).trans pf0
  have pf1 := (yz10163.1 _ 28 (Or.inr (by decide)) (Or.inr (by decide)) (Or.inr (by decide))).trans pf1
  have pf2 := (yz10163.1 _ 29 (Or.inr (by decide)) (Or.inr (by decide)) (Or.inr (by decide))).trans pf2
  have pf4 := (yz10163.1 _ 8 (Or.inr (by decide)) (Or.inr (by decide)) (Or.inr (by decide))).trans pf4
  have hfr : (∀ b j : Nat, (tag b ≠ 46 ∨ j ≠ 8) → (tag b ≠ 46 ∨ j ≠ 9) → (tag b ≠ 46 ∨ j ≠ 10) → (tag b ≠ 46 ∨ j ≠ 11) → (tag b ≠ 46 ∨ j ≠ 12) → (tag b ≠ 46 ∨ j ≠ 13) → (tag b ≠ 46 ∨ j ≠ 14) → (tag b ≠ 46 ∨ j ≠ 15) → fld F b j = fld Fo b j) ∧ (∀ b j : Nat, elm F b j = elm Fo b j) := ⟨fun b j n46_8 n46_9 n46_10 n46_11 n46_12 n46_13 n46_14 n46_15 => (yz10163.1 b j n46_9 n46_13 n46_14).trans (hfr.1 b j n46_8 n46_9 n46_10 n46_11 n46_12 n46_13 n46_14 n46_15), fun b j  => (yz10163.2 b j ).trans (hfr.2 b j )⟩
  have hstk := STK.tr hstk stz10163
  have hspt := SPT.tr hspt ptz10163
  refine lv_istore_n (lv' := [(2, .int z10163), (0, .ref p0), (1, .int p1)]) hx hb dX13_readKnown_5 rfl hl (by decide) rfl (fun ls hl => ?_)
  refine lv_aload_n hx hb dX13_readKnown_6 rfl (lv_at hl 1 rfl) ?_
  refine t_cVv (n := 0) (C := RX13) (T := TX13) (N := 37) (As := []) (rest := []) X hT (km14_X13_goesOn l G tag L F hT.2.2.2 p0 x0 x1 x2 soz10163 spz10163 faz10163 m0 g0 mx0 gx0 pf0 mx1 gx1 pf1 mx2 gx2 pf2 (by omega) qsoz10163 (by omega) qspz10163 (by omega) qfaz10163 hkf) m0 g0 rfl rfl qw_508 qw_509 qw_510 qw_5 qw_511 ⟨rfl, by decide +kernel, by decide +kernel, by decide +kernel⟩ ⟨Nat.le_of_ble_eq_true rfl, Nat.le_of_ble_eq_true rfl⟩ hl rfl rfl (Nat.le_of_ble_eq_true rfl) dX13_readKnown_7 ⟨Nat.le_of_ble_eq_true rfl, Nat.le_of_ble_eq_true rfl⟩ (fun F H locs hT hz10164 => ?_)
  obtain ⟨yz10164, ⟨soz10164, spz10164, faz10164, qsoz10164, qspz10164, qfaz10164, rsoz10164, rspz10164, rfaz10164, stz10164, ptz10164, hkf⟩⟩ := hz10164
  have pf0 := (yz10164.1 _ 4 (Or.inr (by decide)) (Or.inr (by decide)) (Or.inr (by decide)) (Or.inr (by decide)) (Or.inr (by decide)) (Or.inr (by decide))).trans pf0
  have pf1 := (yz10164.1 _ 28 (Or.inr (by decide)) (Or.inr (by decide)) (Or.inr (by decide)) (Or.inr (by decide)) (Or.inr (by decide)) (Or.inr (by decide))).trans pf1
  have pf2 := (yz10164.1 _ 29 (Or.inr (by decide)) (Or.inr (by decide)) (Or.inr (by decide)) (Or.inr (by decide)) (Or.inr (by decide)) (Or.inr (by decide))).trans pf2
  have qfaz10163 := (yz10164.1 _ 13 (Or.inr (by decide)) (Or.inr (by decide)) (Or.inr (by decide)) (Or.inr (by decide)) (Or.inr (by decide)) (Or.inr (by decide))).trans qfaz10163
  have hfr : (∀ b j : Nat, (tag b ≠ 46 ∨ j ≠ 8) → (tag b ≠ 46 ∨ j ≠ 9) → (tag b ≠ 46 ∨ j ≠ 10) → (tag b ≠ 46 ∨ j ≠ 11) → (tag b ≠ 46 ∨ j ≠ 12) → (tag b ≠ 46 ∨ j ≠ 13) → (tag b ≠ 46 ∨ j ≠ 14) → (tag b ≠ 46 ∨ j ≠ 15) → fld F b j = fld Fo b j) ∧ (∀ b j : Nat, elm F b j = elm Fo b j) := ⟨fun b j n46_8 n46_9 n46_10 n46_11 n46_12 n46_13 n46_14 n46_15 => (yz10164.1 b j n46_8 n46_9 n46_10 n46_11 n46_12 n46_15).trans (hfr.1 b j n46_8 n46_9 n46_10 n46_11 n46_12 n46_13 n46_14 n46_15), fun b j  => (yz10164.2 b j ).trans (hfr.2 b j )⟩
  have hrel := msr_of (fun j => yz10164.2 _ j ) (fun j => yz10164.2 _ j ) hrel
  have hstk := STK.tr hstk stz10164
  have hspt := SPT.tr hspt ptz10164
  refine lv_iload_n hx hb dX13_readKnown_10 rfl (lv_at hl 0 rfl) ?_
  exact t_iret hQ X hT (⟨(by omega), hfr, hrel, ⟨soz10164, spz10164, faz10164, qsoz10164, qspz10164, qfaz10164, (by omega), (by omega), (by omega), hstk, hspt, hkf⟩⟩) (Nat.le_of_ble_eq_true rfl) (Nat.le_of_ble_eq_true rfl) dX13_readKnown_11
set_option maxHeartbeats 4000000 in
set_option maxRecDepth 100000 in
theorem km24_X13_bit (l : Launch) (G : KG) (tag : Nat → Nat) (L : List Nat) (F : Nat → va_E) (ho : okT G ttC tag L F) (p0 : Int32) (p1 : Int32)  : TMi l yX13_bit cX13_bit 2 (some .boolean) { frames := 0, cells := 0, slots := 0, locals := 0 } G ttC tag L F [.int p0, .int p1] (fun r F1 => F1 = F ∧ (0 ≤ r.toInt ∧ r.toInt ≤ 1)) := by
  refine t_bodyi (y := yX13_bit) (cd := cX13_bit) (mL := 2) (rt := (some .boolean)) (rm := { frames := 0, cells := 0, slots := 0, locals := 0 }) (av := [.int p0, .int p1]) (by decide) (Nat.le_of_ble_eq_true rfl) ho ?_
  intro p e s m args below meth c ls A Q hQ X hT hl
  have hx := X.1.1
  have hb := X.1.2.1
  have hl : lv_has ls 2 [(0, .int p0), (1, .int p1)] := hl
  have rp0 := rg_all p0
  have rp1 := rg_all p1
  refine lv_iload_n hx hb dX13_bit_0 rfl (lv_at hl 0 rfl) ?_
  refine lv_iload_n hx hb dX13_bit_1 rfl (lv_at hl 1 rfl) ?_
  refine lv_ishr hx hb dX13_bit_2 ?_
  refine lv_topi (fun z10234 ez10234 => ?_)
  have rz10234 := rg_all z10234
  refine lv_iconst (v := 1) hx hb dX13_bit_3 (by decide) ?_
  refine lv_iand hx hb dX13_bit_4 ?_
  refine lv_topi (fun z10235 ez10235 => ?_)
  have rz10235 : 0 ≤ z10235.toInt ∧ z10235.toInt ≤ 1 := ar_and ez10235 1 (by decide) (by decide)
  refine lv_iconst (v := 1) hx hb dX13_bit_5 (by decide) ?_
  refine lv_icmp_ne (tgt := 13) hx hb dX13_bit_6 (by decide) (fun c10236 => ?_) (fun c10236 => ?_)
  · have w10237 := cv_ne (rfl : z10235.toInt = z10235.toInt) (by decide : (1 : Int32).toInt = 1) c10236
    refine lv_iconst (v := 0) hx hb dX13_bit_13 (by decide) ?_
    have k10238 : (0 : Int32).toInt = 0 := by decide
    exact t_zret hQ X hT (by decide) (⟨rfl, (by decide)⟩) (Nat.le_of_ble_eq_true rfl) (Nat.le_of_ble_eq_true rfl) dX13_bit_14
  · have w10239 := cv_eq (rfl : z10235.toInt = z10235.toInt) (by decide : (1 : Int32).toInt = 1) c10236
    refine lv_iconst (v := 1) hx hb dX13_bit_9 (by decide) ?_
    refine lv_goto (tgt := 14) hx hb dX13_bit_10 (by decide) ?_
    have k10240 : (1 : Int32).toInt = 1 := by decide
    exact t_zret hQ X hT (by decide) (⟨rfl, (by decide)⟩) (Nat.le_of_ble_eq_true rfl) (Nat.le_of_ble_eq_true rfl) dX13_bit_14
set_option maxHeartbeats 4000000 in
set_option maxRecDepth 100000 in
theorem km25_X13_readOlder (l : Launch) (G : KG) (tag : Nat → Nat) (L : List Nat) (Fo : Nat → va_E) (ho : okT G ttC tag L Fo) (p0 : Nat) (x0 : Nat) (x1 : Nat) (x2 : Nat) (x3 : Int32) (x4 : Int32) (x5 : Int32) (m0 : p0 ∈ L) (g0 : tag p0 = 46) (mx0 : x0 ∈ L) (gx0 : tag x0 = 44) (pf0 : fld Fo p0 4 = .ref x0) (mx1 : x1 ∈ L) (gx1 : tag x1 = 35) (pf1 : fld Fo x0 28 = .ref x1) (mx2 : x2 ∈ L) (gx2 : tag x2 = 36) (pf2 : fld Fo x0 29 = .ref x2) (hx3 : 0 ≤ x3.toInt ∧ x3.toInt ≤ 5) (pf3 : fld Fo p0 9 = .int x3) (hx4 : 0 ≤ x4.toInt ∧ x4.toInt ≤ 1000) (pf4 : fld Fo p0 8 = .int x4) (hx5 : 0 ≤ x5.toInt ∧ x5.toInt ≤ 7) (pf5 : fld Fo p0 13 = .int x5) (hrel : MSR Fo x1 x2) (hkf : KF x3 x5) : TMv l yX13_readOlder cX13_readOlder 3 { frames := 9, cells := 0, slots := 0, locals := 193 } G ttC tag L Fo [.ref p0] (fun F1 => ((∀ b j : Nat, (tag b ≠ 44 ∨ j ≠ 11) → (tag b ≠ 46 ∨ j ≠ 8) → (tag b ≠ 46 ∨ j ≠ 9) → (tag b ≠ 46 ∨ j ≠ 10) → (tag b ≠ 46 ∨ j ≠ 11) → (tag b ≠ 46 ∨ j ≠ 12) → (tag b ≠ 46 ∨ j ≠ 13) → (tag b ≠ 46 ∨ j ≠ 14) → (tag b ≠ 46 ∨ j ≠ 15) → fld F1 b j = fld Fo b j) ∧ (∀ b j : Nat, tag b ≠ 33 → elm F1 b j = elm Fo b j)) ∧ (MSR F1 x1 x2) ∧ (∃ so sp fa : Int32, fld F1 p0 9 = .int so ∧ fld F1 p0 8 = .int sp ∧ fld F1 p0 13 = .int fa ∧ (0 ≤ so.toInt ∧ so.toInt ≤ 5) ∧ (0 ≤ sp.toInt ∧ sp.toInt ≤ 1000) ∧ (0 ≤ fa.toInt ∧ fa.toInt ≤ 7) ∧ STK x3 so ∧ SPT x3 x4 so sp ∧ KF so fa)) := by
  refine t_bodyv (y := yX13_readOlder) (cd := cX13_readOlder) (mL := 3) (rm := { frames := 9, cells := 0, slots := 0, locals := 193 }) (av := [.ref p0]) (by decide) (Nat.le_of_ble_eq_true rfl) ho ?_
  intro p e s m args below meth c ls A Q hQ X hT hl
  have hx := X.1.1
  have hb := X.1.2.1
  have hl : lv_has ls 3 [(0, .ref p0)] := hl
  obtain ⟨F, hFo⟩ : ∃ F : Nat → va_E, F = Fo := ⟨_, rfl⟩
  rw [← hFo] at hT pf0 pf1 pf2 pf3 pf4 pf5 hrel
  have hfr : (∀ b j : Nat, (tag b ≠ 44 ∨ j ≠ 11) → (tag b ≠ 46 ∨ j ≠ 8) → (tag b ≠ 46 ∨ j ≠ 9) → (tag b ≠ 46 ∨ j ≠ 10) → (tag b ≠ 46 ∨ j ≠ 11) → (tag b ≠ 46 ∨ j ≠ 12) → (tag b ≠ 46 ∨ j ≠ 13) → (tag b ≠ 46 ∨ j ≠ 14) → (tag b ≠ 46 ∨ j ≠ 15) → fld F b j = fld Fo b j) ∧ (∀ b j : Nat, tag b ≠ 33 → elm F b j = elm Fo b j) := by
    rw [hFo]
    exact ⟨by intros; rfl, by intros; rfl⟩
  have hstk : STK x3 x3 := STK.rf
  have hspt : SPT x3 x4 x3 x4 := SPT.rf
  have K75 : ∀ (z10749 : Int32) (z10750 : Int32) (z10751 : Int32) (z10752 : Int32) (z10753 : Int32) (z10754 : Int32) (z10755 : Int32) (F : Nat → va_E) (H : Heap) (locs : List Loc) (ls : Array Slot), (0 ≤ z10749.toInt ∧ z10749.toInt ≤ 5) → (0 ≤ z10750.toInt ∧ z10750.toInt ≤ 5) → (0 ≤ z10752.toInt ∧ z10752.toInt ≤ 12) → (0 ≤ z10753.toInt ∧ z10753.toInt ≤ 1000) → (0 ≤ z10754.toInt ∧ z10754.toInt ≤ 5) → (0 ≤ z10755.toInt ∧ z10755.toInt ≤ 7) → TH G ttC A s tag L F H locs → ((∀ b j : Nat, (tag b ≠ 44 ∨ j ≠ 11) → (tag b ≠ 46 ∨ j ≠ 8) → (tag b ≠ 46 ∨ j ≠ 9) → (tag b ≠ 46 ∨ j ≠ 10) → (tag b ≠ 46 ∨ j ≠ 11) → (tag b ≠ 46 ∨ j ≠ 12) → (tag b ≠ 46 ∨ j ≠ 13) → (tag b ≠ 46 ∨ j ≠ 14) → (tag b ≠ 46 ∨ j ≠ 15) → fld F b j = fld Fo b j) ∧ (∀ b j : Nat, tag b ≠ 33 → elm F b j = elm Fo b j)) → MSR F x1 x2 → (fld F p0 4 = .ref x0) → (fld F x0 28 = .ref x1) → (fld F x0 29 = .ref x2) → (fld F x0 11 = .int z10751) → (fld F x0 0 = .int z10752) → (fld F p0 8 = .int z10753) → (fld F p0 9 = .int z10754) → (fld F p0 13 = .int z10755) → (STK x3 z10754) → (SPT x3 x4 z10754 z10753) → (KF z10754 z10755) → lv_has ls 3 [(0, .ref p0), (1, .int z10749), (2, .int z10750)] → W p l e { frames := 9, cells := 0, slots := 0, locals := 193 } s m args below meth c H locs 0 0 Q (F0 m 75 ls []) := by
    intro z10749 z10750 z10751 z10752 z10753 z10754 z10755 F H locs ls rz10749 rz10750 rz10752 rz10753 rz10754 rz10755 hT hfr hrel pf0 pf1 pf2 qz10751 qz10752 qz10753 qz10754 qz10755 hstk hspt hkf hl
    have rz10751 := rg_all z10751
    refine lv_aload_n hx hb dX13_readOlder_75 rfl (lv_at hl 0 rfl) ?_
    refine t_cVv (n := 0) (C := RX13) (T := TX13) (N := 37) (As := []) (rest := []) X hT (km14_X13_goesOn l G tag L F hT.2.2.2 p0 x0 x1 x2 z10754 z10753 z10755 m0 g0 mx0 gx0 pf0 mx1 gx1 pf1 mx2 gx2 pf2 (by omega) qz10754 (by omega) qz10753 (by omega) qz10755 hkf) m0 g0 rfl rfl qw_508 qw_509 qw_510 qw_5 qw_511 ⟨rfl, by decide +kernel, by decide +kernel, by decide +kernel⟩ ⟨Nat.le_of_ble_eq_true rfl, Nat.le_of_ble_eq_true rfl⟩ hl rfl rfl (Nat.le_of_ble_eq_true rfl) dX13_readOlder_76 ⟨Nat.le_of_ble_eq_true rfl, Nat.le_of_ble_eq_true rfl⟩ (fun F H locs hT hz10756 => ?_)
    obtain ⟨yz10756, ⟨soz10756, spz10756, faz10756, qsoz10756, qspz10756, qfaz10756, rsoz10756, rspz10756, rfaz10756, stz10756, ptz10756, hkf⟩⟩ := hz10756
    have qz10751 := (yz10756.1 _ 11 (Or.inr (by decide)) (Or.inr (by decide)) (Or.inr (by decide)) (Or.inl (by rw [gx0]; decide)) (Or.inr (by decide)) (Or.inr (by decide))).trans qz10751
    have qz10752 := (yz10756.1 _ 0 (Or.inr (by decide)) (Or.inr (by decide)) (Or.inr (by decide)) (Or.inr (by decide)) (Or.inr (by decide)) (Or.inr (by decide))).trans qz10752
    have qz10755 := (yz10756.1 _ 13 (Or.inr (by decide)) (Or.inr (by decide)) (Or.inr (by decide)) (Or.inr (by decide)) (Or.inr (by decide)) (Or.inr (by decide))).trans qz10755
    have pf0 := (yz10756.1 _ 4 (Or.inr (by decide)) (Or.inr (by decide)) (Or.inr (by decide)) (Or.inr (by decide)) (Or.inr (by decide)) (Or.inr (by decide))).trans pf0
    have pf1 := (yz10756.1 _ 28 (Or.inr (by decide)) (Or.inr (by decide)) (Or.inr (by decide)) (Or.inr (by decide)) (Or.inr (by decide)) (Or.inr (by decide))).trans pf1
    have pf2 := (yz10756.1 _ 29 (Or.inr (by decide)) (Or.inr (by decide)) (Or.inr (by decide)) (Or.inr (by decide)) (Or.inr (by decide)) (Or.inr (by decide))).trans pf2
    have hfr : (∀ b j : Nat, (tag b ≠ 44 ∨ j ≠ 11) → (tag b ≠ 46 ∨ j ≠ 8) → (tag b ≠ 46 ∨ j ≠ 9) → (tag b ≠ 46 ∨ j ≠ 10) → (tag b ≠ 46 ∨ j ≠ 11) → (tag b ≠ 46 ∨ j ≠ 12) → (tag b ≠ 46 ∨ j ≠ 13) → (tag b ≠ 46 ∨ j ≠ 14) → (tag b ≠ 46 ∨ j ≠ 15) → fld F b j = fld Fo b j) ∧ (∀ b j : Nat, tag b ≠ 33 → elm F b j = elm Fo b j) := ⟨fun b j n44_11 n46_8 n46_9 n46_10 n46_11 n46_12 n46_13 n46_14 n46_15 => (yz10756.1 b j n46_8 n46_9 n46_10 n46_11 n46_12 n46_15).trans (hfr.1 b j n44_11 n46_8 n46_9 n46_10 n46_11 n46_12 n46_13 n46_14 n46_15), fun b j a33 => (yz10756.2 b j ).trans (hfr.2 b j a33)⟩
    have hrel := msr_of (fun j => yz10756.2 _ j ) (fun j => yz10756.2 _ j ) hrel
    have hstk := STK.tr hstk stz10756
    have hspt := SPT.tr hspt ptz10756
    refine lv_aload_n hx hb dX13_readOlder_79 rfl (lv_at hl 0 rfl) ?_
    refine t_get (C := RX13) (T := TX13) (N := 37) X hT m0 g0 rfl rfl 9 (by decide) qw_478 inlX13 rfl dX13_readOlder_80 (fun v10757 hv10757 ov10757 => ?_)
    obtain rfl : v10757 = .int soz10756 := hv10757.symm.trans qsoz10756
    refine lv_iconst (v := 5) hx hb dX13_readOlder_83 (by decide) ?_
    refine lv_icmp_ne (tgt := 88) hx hb dX13_readOlder_84 (by decide) (fun c10758 => ?_) (fun c10758 => ?_)
    · have w10759 := cv_ne (rfl : soz10756.toInt = soz10756.toInt) (by decide : (5 : Int32).toInt = 5) c10758
      refine lv_aload_n hx hb dX13_readOlder_88 rfl (lv_at hl 0 rfl) ?_
      refine t_get (C := RX13) (T := TX13) (N := 37) X hT m0 g0 rfl rfl 4 (by decide) qw_477 inlX13 rfl dX13_readOlder_89 (fun v10760 hv10760 ov10760 => ?_)
      obtain rfl : v10760 = .ref x0 := hv10760.symm.trans pf0
      refine t_getN (C := RX12) (T := TX12) (N := 31) X hT mx0 gx0 rfl rfl 24 (by decide) (List.mem_of_getElem? (i := 28) rfl) inlX12 rfl dX13_readOlder_92 (fun v10761 hv10761 ov10761 => ?_)
      obtain ⟨b10762, rfl, mb10762, gb10762⟩ := okV_r ov10761
      have gb10762 : tag b10762 = 33 := tg_of gb10762
      refine lv_iload_n hx hb dX13_readOlder_95 rfl (lv_at hl 1 rfl) ?_
      refine lv_dup2_11 hx hb dX13_readOlder_96 rfl rfl ?_
      refine t_ild X hT mb10762 gb10762 rfl (by omega) dX13_readOlder_97 (fun z10763 vz10763 rz10763 => ?_)
      have rz10763 : (-2147483648) ≤ z10763.toInt ∧ z10763.toInt ≤ 2147483647 := rz10763
      refine lv_iconst (v := 1) hx hb dX13_readOlder_98 (by decide) ?_
      refine lv_iload_n hx hb dX13_readOlder_99 rfl (lv_at hl 2 rfl) ?_
      refine lv_ishl hx hb dX13_readOlder_100 ?_
      refine lv_topi (fun z10764 ez10764 => ?_)
      have hz10764 := ar_shl3 ez10764 (by omega)
      have rz10764 : 1 ≤ z10764.toInt ∧ z10764.toInt ≤ 32 := by omega
      refine lv_ior hx hb dX13_readOlder_101 ?_
      refine lv_topi (fun z10765 ez10765 => ?_)
      have rz10765 := rg_all z10765
      refine t_ist X hT mb10762 gb10762 rfl (by omega) (show (-2147483648) ≤ (z10765 : Int32).toInt ∧ (z10765 : Int32).toInt ≤ 2147483647 from (rg_all _)) dX13_readOlder_102 (fun F H locs hT v10766 h1v10766 h2v10766 => ?_)
      have qz10751 := (h2v10766 _ _).trans qz10751
      have qz10752 := (h2v10766 _ _).trans qz10752
      have qfaz10756 := (h2v10766 _ _).trans qfaz10756
      have pf0 := (h2v10766 _ _).trans pf0
      have pf1 := (h2v10766 _ _).trans pf1
      have pf2 := (h2v10766 _ _).trans pf2
      have qsoz10756 := (h2v10766 _ _).trans qsoz10756
      have qspz10756 := (h2v10766 _ _).trans qspz10756
      have hv10761 := (h2v10766 _ _).trans hv10761
      have hfr : (∀ b j : Nat, (tag b ≠ 44 ∨ j ≠ 11) → (tag b ≠ 46 ∨ j ≠ 8) → (tag b ≠ 46 ∨ j ≠ 9) → (tag b ≠ 46 ∨ j ≠ 10) → (tag b ≠ 46 ∨ j ≠ 11) → (tag b ≠ 46 ∨ j ≠ 12) → (tag b ≠ 46 ∨ j ≠ 13) → (tag b ≠ 46 ∨ j ≠ 14) → (tag b ≠ 46 ∨ j ≠ 15) → fld F b j = fld Fo b j) ∧ (∀ b j : Nat, tag b ≠ 33 → elm F b j = elm Fo b j) := ⟨fun b j n44_11 n46_8 n46_9 n46_10 n46_11 n46_12 n46_13 n46_14 n46_15 => (h2v10766 b j).trans (hfr.1 b j n44_11 n46_8 n46_9 n46_10 n46_11 n46_12 n46_13 n46_14 n46_15), fun b j a33 => (h1v10766 b j (Or.inl (at_ne gb10762 a33))).trans (hfr.2 b j a33)⟩
      have hrel := msr_of (fun j => h1v10766 _ j (Or.inl (tne gx1 gb10762 (by decide)))) (fun j => h1v10766 _ j (Or.inl (tne gx2 gb10762 (by decide)))) hrel
      refine lv_aload_n hx hb dX13_readOlder_103 rfl (lv_at hl 0 rfl) ?_
      refine t_get (C := RX13) (T := TX13) (N := 37) X hT m0 g0 rfl rfl 4 (by decide) qw_477 inlX13 rfl dX13_readOlder_104 (fun v10767 hv10767 ov10767 => ?_)
      obtain rfl : v10767 = .ref x0 := hv10767.symm.trans pf0
      refine lv_dup hx hb dX13_readOlder_107 rfl ?_
      refine t_getN (C := RX12) (T := TX12) (N := 31) X hT mx0 gx0 rfl rfl 11 (by decide) (List.mem_of_getElem? (i := 15) rfl) inlX12 rfl dX13_readOlder_108 (fun v10768 hv10768 ov10768 => ?_)
      obtain rfl : v10768 = .int z10751 := hv10768.symm.trans qz10751
      refine lv_iconst (v := 1) hx hb dX13_readOlder_111 (by decide) ?_
      refine lv_iadd hx hb dX13_readOlder_112 ?_
      refine lv_topi (fun z10769 ez10769 => ?_)
      have rz10769 := rg_all z10769
      refine t_putN (C := RX12) (T := TX12) (N := 31) (v := .int z10769) X hT mx0 gx0 rfl tyX12 tyX12_ok nmX12 rfl 11 (by decide) (List.mem_of_getElem? (i := 15) rfl) inlX12 rfl (by first | rfl | decide) (by first | rfl | decide) rfl (⟨_, rfl, (show (-2147483648) ≤ (z10769 : Int32).toInt from (by omega)), (show (z10769 : Int32).toInt ≤ 2147483647 from (by omega))⟩) dX13_readOlder_113 (fun F H locs hT v10770 h1v10770 h2v10770 => ?_)
      have qz10752 := (h1v10770 _ _ (Or.inr (by decide))).trans qz10752
      have qfaz10756 := (h1v10770 _ _ (Or.inr (by decide))).trans qfaz10756
      have pf0 := (h1v10770 _ _ (Or.inr (by decide))).trans pf0
      have pf1 := (h1v10770 _ _ (Or.inr (by decide))).trans pf1
      have pf2 := (h1v10770 _ _ (Or.inr (by decide))).trans pf2
      have qsoz10756 := (h1v10770 _ _ (Or.inr (by decide))).trans qsoz10756
      have qspz10756 := (h1v10770 _ _ (Or.inr (by decide))).trans qspz10756
      have hv10761 := (h1v10770 _ _ (Or.inr (by decide))).trans hv10761
      have v10766 := (h2v10770 _ _).trans v10766
      have hfr : (∀ b j : Nat, (tag b ≠ 44 ∨ j ≠ 11) → (tag b ≠ 46 ∨ j ≠ 8) → (tag b ≠ 46 ∨ j ≠ 9) → (tag b ≠ 46 ∨ j ≠ 10) → (tag b ≠ 46 ∨ j ≠ 11) → (tag b ≠ 46 ∨ j ≠ 12) → (tag b ≠ 46 ∨ j ≠ 13) → (tag b ≠ 46 ∨ j ≠ 14) → (tag b ≠ 46 ∨ j ≠ 15) → fld F b j = fld Fo b j) ∧ (∀ b j : Nat, tag b ≠ 33 → elm F b j = elm Fo b j) := ⟨fun b j n44_11 n46_8 n46_9 n46_10 n46_11 n46_12 n46_13 n46_14 n46_15 => (h1v10770 b j (fr_ne gx0 n44_11)).trans (hfr.1 b j n44_11 n46_8 n46_9 n46_10 n46_11 n46_12 n46_13 n46_14 n46_15), fun b j a33 => (h2v10770 b j).trans (hfr.2 b j a33)⟩
      have hrel := msr_of (fun j => h2v10770 _ j) (fun j => h2v10770 _ j) hrel
      exact t_vret hQ X hT ⟨hfr, hrel, ⟨soz10756, spz10756, faz10756, qsoz10756, qspz10756, qfaz10756, (by omega), (by omega), (by omega), hstk, hspt, hkf⟩⟩ (Nat.le_of_ble_eq_true rfl) (Nat.le_of_ble_eq_true rfl) dX13_readOlder_116
    · have w10771 := cv_eq (rfl : soz10756.toInt = soz10756.toInt) (by decide : (5 : Int32).toInt = 5) c10758
      exact t_vret hQ X hT ⟨hfr, hrel, ⟨soz10756, spz10756, faz10756, qsoz10756, qspz10756, qfaz10756, (by omega), (by omega), (by omega), hstk, hspt, hkf⟩⟩ (Nat.le_of_ble_eq_true rfl) (Nat.le_of_ble_eq_true rfl) dX13_readOlder_87
  have K70 : ∀ (z10772 : Int32) (z10773 : Int32) (z10774 : Int32) (z10775 : Int32) (z10776 : Int32) (z10777 : Int32) (z10778 : Int32) (F : Nat → va_E) (H : Heap) (locs : List Loc) (ls : Array Slot), (0 ≤ z10772.toInt ∧ z10772.toInt ≤ 5) → (0 ≤ z10773.toInt ∧ z10773.toInt ≤ 5) → (1 ≤ z10775.toInt ∧ z10775.toInt ≤ 12) → (0 ≤ z10776.toInt ∧ z10776.toInt ≤ 1000) → (0 ≤ z10777.toInt ∧ z10777.toInt ≤ 4) → (0 ≤ z10778.toInt ∧ z10778.toInt ≤ 7) → TH G ttC A s tag L F H locs → ((∀ b j : Nat, (tag b ≠ 44 ∨ j ≠ 11) → (tag b ≠ 46 ∨ j ≠ 8) → (tag b ≠ 46 ∨ j ≠ 9) → (tag b ≠ 46 ∨ j ≠ 10) → (tag b ≠ 46 ∨ j ≠ 11) → (tag b ≠ 46 ∨ j ≠ 12) → (tag b ≠ 46 ∨ j ≠ 13) → (tag b ≠ 46 ∨ j ≠ 14) → (tag b ≠ 46 ∨ j ≠ 15) → fld F b j = fld Fo b j) ∧ (∀ b j : Nat, tag b ≠ 33 → elm F b j = elm Fo b j)) → MSR F x1 x2 → (fld F p0 4 = .ref x0) → (fld F x0 28 = .ref x1) → (fld F x0 29 = .ref x2) → (fld F x0 11 = .int z10774) → (fld F x0 0 = .int z10775) → (fld F p0 8 = .int z10776) → (fld F p0 9 = .int z10777) → (fld F p0 13 = .int z10778) → (STK x3 z10777) → (SPT x3 x4 z10777 z10776) → (KF z10777 z10778) → lv_has ls 3 [(0, .ref p0), (1, .int z10772), (2, .int z10773)] → W p l e { frames := 9, cells := 0, slots := 0, locals := 193 } s m args below meth c H locs 0 0 Q (F0 m 70 ls []) := by
    intro z10772 z10773 z10774 z10775 z10776 z10777 z10778 F H locs ls rz10772 rz10773 rz10775 rz10776 rz10777 rz10778 hT hfr hrel pf0 pf1 pf2 qz10774 qz10775 qz10776 qz10777 qz10778 hstk hspt hkf hl
    have rz10774 := rg_all z10774
    refine lv_aload_n hx hb dX13_readOlder_70 rfl (lv_at hl 0 rfl) ?_
    refine lv_iconst (v := 3) hx hb dX13_readOlder_71 (by decide) ?_
    refine t_cVv (n := 1) (C := RX13) (T := TX13) (N := 37) (As := [.int 3]) (rest := []) X hT (km10_X13_flaw l G tag L F hT.2.2.2 p0 3 x0 x1 x2 z10777 z10776 z10778 m0 g0 (by decide) mx0 gx0 pf0 mx1 gx1 pf1 mx2 gx2 pf2 (by omega) qz10777 (by omega) qz10776 (by omega) qz10778 hkf) m0 g0 rfl rfl qw_548 qw_549 qw_550 qw_5 qw_551 ⟨rfl, by decide +kernel, by decide +kernel, by decide +kernel⟩ ⟨Nat.le_of_ble_eq_true rfl, Nat.le_of_ble_eq_true rfl⟩ hl rfl rfl (Nat.le_of_ble_eq_true rfl) dX13_readOlder_72 ⟨Nat.le_of_ble_eq_true rfl, Nat.le_of_ble_eq_true rfl⟩ (fun F H locs hT hz10779 => ?_)
    obtain ⟨yz10779, ⟨soz10779, spz10779, faz10779, qsoz10779, qspz10779, qfaz10779, rsoz10779, rspz10779, rfaz10779, stz10779, ptz10779, hkf, pxz10779_0⟩⟩ := hz10779
    have qz10774 := (yz10779.1 _ 11 (Or.inr (by decide)) (Or.inr (by decide)) (Or.inr (by decide))).trans qz10774
    have qz10775 := (yz10779.1 _ 0 (Or.inr (by decide)) (Or.inr (by decide)) (Or.inr (by decide))).trans qz10775
    have qz10776 := (yz10779.1 _ 8 (Or.inr (by decide)) (Or.inr (by decide)) (Or.inr (by decide))).trans qz10776
    have pf0 := (yz10779.1 _ 4 (Or.inr (by decide)) (Or.inr (by decide)) (Or.inr (by decide))).trans pf0
    have pf1 := (yz10779.1 _ 28 (Or.inr (by decide)) (Or.inr (by decide)) (Or.inr (by decide))).trans pf1
    have pf2 := (yz10779.1 _ 29 (Or.inr (by decide)) (Or.inr (by decide)) (Or.inr (by decide))).trans pf2
    have hfr : (∀ b j : Nat, (tag b ≠ 44 ∨ j ≠ 11) → (tag b ≠ 46 ∨ j ≠ 8) → (tag b ≠ 46 ∨ j ≠ 9) → (tag b ≠ 46 ∨ j ≠ 10) → (tag b ≠ 46 ∨ j ≠ 11) → (tag b ≠ 46 ∨ j ≠ 12) → (tag b ≠ 46 ∨ j ≠ 13) → (tag b ≠ 46 ∨ j ≠ 14) → (tag b ≠ 46 ∨ j ≠ 15) → fld F b j = fld Fo b j) ∧ (∀ b j : Nat, tag b ≠ 33 → elm F b j = elm Fo b j) := ⟨fun b j n44_11 n46_8 n46_9 n46_10 n46_11 n46_12 n46_13 n46_14 n46_15 => (yz10779.1 b j n46_9 n46_13 n46_14).trans (hfr.1 b j n44_11 n46_8 n46_9 n46_10 n46_11 n46_12 n46_13 n46_14 n46_15), fun b j a33 => (yz10779.2 b j ).trans (hfr.2 b j a33)⟩
    have hrel := msr_of (fun j => yz10779.2 _ j ) (fun j => yz10779.2 _ j ) hrel
    have hstk := STK.tr hstk stz10779
    have hspt := SPT.tr hspt ptz10779
    exact K75 z10772 z10773 z10774 z10775 spz10779 soz10779 faz10779 _ _ _ _ (by omega) (by omega) (by omega) (by omega) (by omega) (by omega) hT hfr hrel pf0 pf1 pf2 qz10774 qz10775 qspz10779 qsoz10779 qfaz10779 hstk hspt hkf (lv_sub hl [0, 1, 2] rfl)
  refine lv_aload_n hx hb dX13_readOlder_0 rfl (lv_at hl 0 rfl) ?_
  refine lv_aload_n hx hb dX13_readOlder_1 rfl (lv_at hl 0 rfl) ?_
  refine t_get (C := RX13) (T := TX13) (N := 37) X hT m0 g0 rfl rfl 4 (by decide) qw_477 inlX13 rfl dX13_readOlder_2 (fun v10780 hv10780 ov10780 => ?_)
  obtain rfl : v10780 = .ref x0 := hv10780.symm.trans pf0
  refine t_getN (C := RX12) (T := TX12) (N := 31) X hT mx0 gx0 rfl rfl 11 (by decide) (List.mem_of_getElem? (i := 15) rfl) inlX12 rfl dX13_readOlder_5 (fun v10781 hv10781 ov10781 => ?_)
  obtain ⟨z10782, rfl, rz10782⟩ := okV_i ov10781
  refine lv_bipush (v := 8) hx hb dX13_readOlder_8 (by decide) ?_
  obtain ⟨z10783, qz10783, rz10783⟩ := t_fld hT mx0 gx0 rfl 0 rfl
  have rz10783 : 0 ≤ z10783.toInt ∧ z10783.toInt ≤ 12 := rz10783
  refine t_cVv (n := 2) (C := RX13) (T := TX13) (N := 37) (As := [.int z10782, .int 8]) (rest := []) X hT (km15_X13_begins l G tag L F hT.2.2.2 p0 z10782 8 x0 x1 x2 x3 x4 x5 z10783 m0 g0 mx0 gx0 pf0 mx1 gx1 pf1 mx2 gx2 pf2 (by omega) pf3 (by omega) pf4 (by omega) pf5 (by omega) qz10783 hkf) m0 g0 rfl rfl qw_575 qw_576 qw_577 qw_5 qw_578 ⟨rfl, by decide +kernel, by decide +kernel, by decide +kernel⟩ ⟨Nat.le_of_ble_eq_true rfl, Nat.le_of_ble_eq_true rfl⟩ hl rfl rfl (Nat.le_of_ble_eq_true rfl) dX13_readOlder_10 ⟨Nat.le_of_ble_eq_true rfl, Nat.le_of_ble_eq_true rfl⟩ (fun F H locs hT hz10784 => ?_)
  obtain ⟨yz10784, ⟨soz10784, spz10784, faz10784, qsoz10784, qspz10784, qfaz10784, rsoz10784, rspz10784, rfaz10784, stz10784, ptz10784, hkf, pxz10784_0⟩⟩ := hz10784
  have pf0 := (yz10784.1 _ 4 (Or.inr (by decide)) (Or.inr (by decide)) (Or.inr (by decide)) (Or.inr (by decide)) (Or.inr (by decide)) (Or.inr (by decide)) (Or.inr (by decide)) (Or.inr (by decide))).trans pf0
  have pf1 := (yz10784.1 _ 28 (Or.inr (by decide)) (Or.inr (by decide)) (Or.inr (by decide)) (Or.inr (by decide)) (Or.inr (by decide)) (Or.inr (by decide)) (Or.inr (by decide)) (Or.inr (by decide))).trans pf1
  have pf2 := (yz10784.1 _ 29 (Or.inr (by decide)) (Or.inr (by decide)) (Or.inr (by decide)) (Or.inr (by decide)) (Or.inr (by decide)) (Or.inr (by decide)) (Or.inr (by decide)) (Or.inr (by decide))).trans pf2
  have hv10781 := (yz10784.1 _ 11 (Or.inr (by decide)) (Or.inr (by decide)) (Or.inr (by decide)) (Or.inl (by rw [gx0]; decide)) (Or.inr (by decide)) (Or.inr (by decide)) (Or.inr (by decide)) (Or.inr (by decide))).trans hv10781
  have qz10783 := (yz10784.1 _ 0 (Or.inr (by decide)) (Or.inr (by decide)) (Or.inr (by decide)) (Or.inr (by decide)) (Or.inr (by decide)) (Or.inr (by decide)) (Or.inr (by decide)) (Or.inr (by decide))).trans qz10783
  have hfr : (∀ b j : Nat, (tag b ≠ 44 ∨ j ≠ 11) → (tag b ≠ 46 ∨ j ≠ 8) → (tag b ≠ 46 ∨ j ≠ 9) → (tag b ≠ 46 ∨ j ≠ 10) → (tag b ≠ 46 ∨ j ≠ 11) → (tag b ≠ 46 ∨ j ≠ 12) → (tag b ≠ 46 ∨ j ≠ 13) → (tag b ≠ 46 ∨ j ≠ 14) → (tag b ≠ 46 ∨ j ≠ 15) → fld F b j = fld Fo b j) ∧ (∀ b j : Nat, tag b ≠ 33 → elm F b j = elm Fo b j) := ⟨fun b j n44_11 n46_8 n46_9 n46_10 n46_11 n46_12 n46_13 n46_14 n46_15 => (yz10784.1 b j n46_8 n46_9 n46_10 n46_11 n46_12 n46_13 n46_14 n46_15).trans (hfr.1 b j n44_11 n46_8 n46_9 n46_10 n46_11 n46_12 n46_13 n46_14 n46_15), fun b j a33 => (yz10784.2 b j ).trans (hfr.2 b j a33)⟩
  have hrel := msr_of (fun j => yz10784.2 _ j ) (fun j => yz10784.2 _ j ) hrel
  have hstk := STK.tr hstk stz10784
  have hspt := SPT.tr hspt ptz10784
  have k10785 : (8 : Int32).toInt = 8 := by decide
  refine lv_aload_n hx hb dX13_readOlder_13 rfl (lv_at hl 0 rfl) ?_
  refine lv_iconst (v := 3) hx hb dX13_readOlder_14 (by decide) ?_
  refine t_cVi (n := 1) (C := RX13) (T := TX13) (N := 37) (As := [.int 3]) (rest := []) X hT (km23_X13_readKnown l G tag L F hT.2.2.2 p0 3 x0 x1 x2 soz10784 spz10784 faz10784 m0 g0 (by decide) mx0 gx0 pf0 mx1 gx1 pf1 mx2 gx2 pf2 (by omega) qsoz10784 (by omega) qspz10784 (by omega) qfaz10784 hrel hkf) m0 g0 rfl rfl qw_632 qw_633 qw_634 qw_5 qw_635 ⟨rfl, by decide +kernel, by decide +kernel, by decide +kernel⟩ ⟨Nat.le_of_ble_eq_true rfl, Nat.le_of_ble_eq_true rfl⟩ hl rfl rfl (Nat.le_of_ble_eq_true rfl) dX13_readOlder_15 ⟨Nat.le_of_ble_eq_true rfl, Nat.le_of_ble_eq_true rfl⟩ (fun z10786 F H locs hT hz10786 => ?_)
  obtain ⟨hz10786, yz10786, hrel, ⟨soz10786, spz10786, faz10786, qsoz10786, qspz10786, qfaz10786, rsoz10786, rspz10786, rfaz10786, stz10786, ptz10786, hkf⟩⟩ := hz10786
  have pf0 := (yz10786.1 _ 4 (Or.inr (by decide)) (Or.inr (by decide)) (Or.inr (by decide)) (Or.inr (by decide)) (Or.inr (by decide)) (Or.inr (by decide)) (Or.inr (by decide)) (Or.inr (by decide))).trans pf0
  have pf1 := (yz10786.1 _ 28 (Or.inr (by decide)) (Or.inr (by decide)) (Or.inr (by decide)) (Or.inr (by decide)) (Or.inr (by decide)) (Or.inr (by decide)) (Or.inr (by decide)) (Or.inr (by decide))).trans pf1
  have pf2 := (yz10786.1 _ 29 (Or.inr (by decide)) (Or.inr (by decide)) (Or.inr (by decide)) (Or.inr (by decide)) (Or.inr (by decide)) (Or.inr (by decide)) (Or.inr (by decide)) (Or.inr (by decide))).trans pf2
  have hv10781 := (yz10786.1 _ 11 (Or.inr (by decide)) (Or.inr (by decide)) (Or.inr (by decide)) (Or.inl (by rw [gx0]; decide)) (Or.inr (by decide)) (Or.inr (by decide)) (Or.inr (by decide)) (Or.inr (by decide))).trans hv10781
  have qz10783 := (yz10786.1 _ 0 (Or.inr (by decide)) (Or.inr (by decide)) (Or.inr (by decide)) (Or.inr (by decide)) (Or.inr (by decide)) (Or.inr (by decide)) (Or.inr (by decide)) (Or.inr (by decide))).trans qz10783
  have hfr : (∀ b j : Nat, (tag b ≠ 44 ∨ j ≠ 11) → (tag b ≠ 46 ∨ j ≠ 8) → (tag b ≠ 46 ∨ j ≠ 9) → (tag b ≠ 46 ∨ j ≠ 10) → (tag b ≠ 46 ∨ j ≠ 11) → (tag b ≠ 46 ∨ j ≠ 12) → (tag b ≠ 46 ∨ j ≠ 13) → (tag b ≠ 46 ∨ j ≠ 14) → (tag b ≠ 46 ∨ j ≠ 15) → fld F b j = fld Fo b j) ∧ (∀ b j : Nat, tag b ≠ 33 → elm F b j = elm Fo b j) := ⟨fun b j n44_11 n46_8 n46_9 n46_10 n46_11 n46_12 n46_13 n46_14 n46_15 => (yz10786.1 b j n46_8 n46_9 n46_10 n46_11 n46_12 n46_13 n46_14 n46_15).trans (hfr.1 b j n44_11 n46_8 n46_9 n46_10 n46_11 n46_12 n46_13 n46_14 n46_15), fun b j a33 => (yz10786.2 b j ).trans (hfr.2 b j a33)⟩
  have hstk := STK.tr hstk stz10786
  have hspt := SPT.tr hspt ptz10786
  refine lv_istore_n (lv' := [(1, .int z10786), (0, .ref p0)]) hx hb dX13_readOlder_18 rfl hl (by decide) rfl (fun ls hl => ?_)
  refine lv_aload_n hx hb dX13_readOlder_19 rfl (lv_at hl 1 rfl) ?_
  refine lv_iconst (v := 3) hx hb dX13_readOlder_20 (by decide) ?_
  refine t_cVi (n := 1) (C := RX13) (T := TX13) (N := 37) (As := [.int 3]) (rest := []) X hT (km18_X13_known l G tag L F hT.2.2.2 p0 3 x0 x1 x2 soz10786 spz10786 faz10786 m0 g0 (by decide) mx0 gx0 pf0 mx1 gx1 pf1 mx2 gx2 pf2 (by omega) qsoz10786 (by omega) qspz10786 (by omega) qfaz10786 hrel hkf) m0 g0 rfl rfl qw_636 qw_637 qw_638 qw_5 qw_639 ⟨rfl, by decide +kernel, by decide +kernel, by decide +kernel⟩ ⟨Nat.le_of_ble_eq_true rfl, Nat.le_of_ble_eq_true rfl⟩ hl rfl rfl (Nat.le_of_ble_eq_true rfl) dX13_readOlder_21 ⟨Nat.le_of_ble_eq_true rfl, Nat.le_of_ble_eq_true rfl⟩ (fun z10787 F H locs hT hz10787 => ?_)
  obtain ⟨hz10787, yz10787, hrel, ⟨soz10787, spz10787, faz10787, qsoz10787, qspz10787, qfaz10787, rsoz10787, rspz10787, rfaz10787, stz10787, ptz10787, hkf⟩⟩ := hz10787
  have pf0 := (yz10787.1 _ 4 (Or.inr (by decide)) (Or.inr (by decide)) (Or.inr (by decide))).trans pf0
  have pf1 := (yz10787.1 _ 28 (Or.inr (by decide)) (Or.inr (by decide)) (Or.inr (by decide))).trans pf1
  have pf2 := (yz10787.1 _ 29 (Or.inr (by decide)) (Or.inr (by decide)) (Or.inr (by decide))).trans pf2
  have hv10781 := (yz10787.1 _ 11 (Or.inr (by decide)) (Or.inr (by decide)) (Or.inr (by decide))).trans hv10781
  have qz10783 := (yz10787.1 _ 0 (Or.inr (by decide)) (Or.inr (by decide)) (Or.inr (by decide))).trans qz10783
  have qspz10786 := (yz10787.1 _ 8 (Or.inr (by decide)) (Or.inr (by decide)) (Or.inr (by decide))).trans qspz10786
  have hfr : (∀ b j : Nat, (tag b ≠ 44 ∨ j ≠ 11) → (tag b ≠ 46 ∨ j ≠ 8) → (tag b ≠ 46 ∨ j ≠ 9) → (tag b ≠ 46 ∨ j ≠ 10) → (tag b ≠ 46 ∨ j ≠ 11) → (tag b ≠ 46 ∨ j ≠ 12) → (tag b ≠ 46 ∨ j ≠ 13) → (tag b ≠ 46 ∨ j ≠ 14) → (tag b ≠ 46 ∨ j ≠ 15) → fld F b j = fld Fo b j) ∧ (∀ b j : Nat, tag b ≠ 33 → elm F b j = elm Fo b j) := ⟨fun b j n44_11 n46_8 n46_9 n46_10 n46_11 n46_12 n46_13 n46_14 n46_15 => (yz10787.1 b j n46_9 n46_13 n46_14).trans (hfr.1 b j n44_11 n46_8 n46_9 n46_10 n46_11 n46_12 n46_13 n46_14 n46_15), fun b j a33 => (yz10787.2 b j ).trans (hfr.2 b j a33)⟩
  have hstk := STK.tr hstk stz10787
  have hspt := SPT.tr hspt ptz10787
  refine lv_istore_n (lv' := [(2, .int z10787), (1, .int z10786), (0, .ref p0)]) hx hb dX13_readOlder_24 rfl hl (by decide) rfl (fun ls hl => ?_)
  refine lv_aload_n hx hb dX13_readOlder_25 rfl (lv_at hl 2 rfl) ?_
  refine t_get (C := RX13) (T := TX13) (N := 37) X hT m0 g0 rfl rfl 9 (by decide) qw_478 inlX13 rfl dX13_readOlder_26 (fun v10788 hv10788 ov10788 => ?_)
  obtain rfl : v10788 = .int soz10787 := hv10788.symm.trans qsoz10787
  refine lv_iconst (v := 5) hx hb dX13_readOlder_29 (by decide) ?_
  refine lv_icmp_eq (tgt := 75) hx hb dX13_readOlder_30 (by decide) (fun c10789 => ?_) (fun c10789 => ?_)
  · have w10790 := cv_eq (rfl : soz10787.toInt = soz10787.toInt) (by decide : (5 : Int32).toInt = 5) c10789
    exact K75 z10786 z10787 z10782 z10783 spz10787 soz10787 faz10787 _ _ _ _ (by omega) (by omega) (by omega) (by omega) (by omega) (by omega) hT hfr hrel pf0 pf1 pf2 hv10781 qz10783 qspz10787 qsoz10787 qfaz10787 hstk hspt hkf (lv_sub hl [2, 1, 0] rfl)
  · have w10791 := cv_ne (rfl : soz10787.toInt = soz10787.toInt) (by decide : (5 : Int32).toInt = 5) c10789
    have w10792 := (fun (h9 : soz10787.toInt ≠ 5) => (fun (h9 : soz10786.toInt ≠ 5) => pxz10784_0 (fun e9 => h9 (stz10786 e9))) (fun e9 => h9 (stz10787 e9))) (by omega)
    refine lv_iload_n hx hb dX13_readOlder_33 rfl (lv_at hl 1 rfl) ?_
    refine lv_iload_n hx hb dX13_readOlder_34 rfl (lv_at hl 0 rfl) ?_
    refine lv_icmp_eq (tgt := 70) hx hb dX13_readOlder_35 (by decide) (fun c10793 => ?_) (fun c10793 => ?_)
    · have w10794 := cv_eq (rfl : z10786.toInt = z10786.toInt) (rfl : z10787.toInt = z10787.toInt) c10793
      exact K70 z10786 z10787 z10782 z10783 spz10787 soz10787 faz10787 _ _ _ _ (by omega) (by omega) (by omega) (by omega) (by omega) (by omega) hT hfr hrel pf0 pf1 pf2 hv10781 qz10783 qspz10787 qsoz10787 qfaz10787 hstk hspt hkf (lv_sub hl [2, 1, 0] rfl)
    · have w10795 := cv_ne (rfl : z10786.toInt = z10786.toInt) (rfl : z10787.toInt = z10787.toInt) c10793
      refine lv_aload_n hx hb dX13_readOlder_38 rfl (lv_at hl 2 rfl) ?_
      refine t_get (C := RX13) (T := TX13) (N := 37) X hT m0 g0 rfl rfl 4 (by decide) qw_477 inlX13 rfl dX13_readOlder_39 (fun v10796 hv10796 ov10796 => ?_)
      obtain rfl : v10796 = .ref x0 := hv10796.symm.trans pf0
      refine t_getN (C := RX12) (T := TX12) (N := 31) X hT mx0 gx0 rfl rfl 24 (by decide) (List.mem_of_getElem? (i := 28) rfl) inlX12 rfl dX13_readOlder_42 (fun v10797 hv10797 ov10797 => ?_)
      obtain ⟨b10798, rfl, mb10798, gb10798⟩ := okV_r ov10797
      have gb10798 : tag b10798 = 33 := tg_of gb10798
      refine lv_iload_n hx hb dX13_readOlder_45 rfl (lv_at hl 1 rfl) ?_
      refine t_ild X hT mb10798 gb10798 rfl (by omega) dX13_readOlder_46 (fun z10799 vz10799 rz10799 => ?_)
      have rz10799 : (-2147483648) ≤ z10799.toInt ∧ z10799.toInt ≤ 2147483647 := rz10799
      refine lv_iload_n hx hb dX13_readOlder_47 rfl (lv_at hl 0 rfl) ?_
      refine t_cSi (n := 2) (As := [.int z10799, .int z10787]) (rest := []) X hT (km24_X13_bit l G tag L F hT.2.2.2 z10799 z10787 ) qw_676 qw_677 qw_5 qw_678 ⟨by decide +kernel, by decide +kernel, by decide +kernel⟩ ⟨Nat.le_of_ble_eq_true rfl, Nat.le_of_ble_eq_true rfl⟩ hl rfl rfl (Nat.le_of_ble_eq_true rfl) dX13_readOlder_48 ⟨Nat.le_of_ble_eq_true rfl, Nat.le_of_ble_eq_true rfl⟩ (fun z10800 F9 H locs hT hz10800 => ?_)
      obtain ⟨fz10800, hz10800⟩ := hz10800
      rw [fz10800] at hT
      refine lv_if_ne (tgt := 70) hx hb dX13_readOlder_51 (by decide) (fun c10801 => ?_) (fun c10801 => ?_)
      · have w10802 := cv_ne (rfl : z10800.toInt = z10800.toInt) (by decide : (0 : Int32).toInt = 0) c10801
        exact K70 z10786 z10787 z10782 z10783 spz10787 soz10787 faz10787 _ _ _ _ (by omega) (by omega) (by omega) (by omega) (by omega) (by omega) hT hfr hrel pf0 pf1 pf2 hv10781 qz10783 qspz10787 qsoz10787 qfaz10787 hstk hspt hkf (lv_sub hl [2, 1, 0] rfl)
      · have w10803 := cv_eq (rfl : z10800.toInt = z10800.toInt) (by decide : (0 : Int32).toInt = 0) c10801
        refine lv_aload_n hx hb dX13_readOlder_54 rfl (lv_at hl 2 rfl) ?_
        refine t_get (C := RX13) (T := TX13) (N := 37) X hT m0 g0 rfl rfl 4 (by decide) qw_477 inlX13 rfl dX13_readOlder_55 (fun v10804 hv10804 ov10804 => ?_)
        obtain rfl : v10804 = .ref x0 := hv10804.symm.trans pf0
        refine t_getN (C := RX12) (T := TX12) (N := 31) X hT mx0 gx0 rfl rfl 24 (by decide) (List.mem_of_getElem? (i := 28) rfl) inlX12 rfl dX13_readOlder_58 (fun v10805 hv10805 ov10805 => ?_)
        obtain rfl : v10805 = .ref b10798 := hv10805.symm.trans hv10797
        refine lv_iload_n hx hb dX13_readOlder_61 rfl (lv_at hl 0 rfl) ?_
        refine t_ild X hT mb10798 gb10798 rfl (by omega) dX13_readOlder_62 (fun z10806 vz10806 rz10806 => ?_)
        have rz10806 : (-2147483648) ≤ z10806.toInt ∧ z10806.toInt ≤ 2147483647 := rz10806
        refine lv_iload_n hx hb dX13_readOlder_63 rfl (lv_at hl 1 rfl) ?_
        refine t_cSi (n := 2) (As := [.int z10806, .int z10786]) (rest := []) X hT (km24_X13_bit l G tag L F hT.2.2.2 z10806 z10786 ) qw_676 qw_677 qw_5 qw_678 ⟨by decide +kernel, by decide +kernel, by decide +kernel⟩ ⟨Nat.le_of_ble_eq_true rfl, Nat.le_of_ble_eq_true rfl⟩ hl rfl rfl (Nat.le_of_ble_eq_true rfl) dX13_readOlder_64 ⟨Nat.le_of_ble_eq_true rfl, Nat.le_of_ble_eq_true rfl⟩ (fun z10807 F9 H locs hT hz10807 => ?_)
        obtain ⟨fz10807, hz10807⟩ := hz10807
        rw [fz10807] at hT
        refine lv_if_eq (tgt := 75) hx hb dX13_readOlder_67 (by decide) (fun c10808 => ?_) (fun c10808 => ?_)
        · have w10809 := cv_eq (rfl : z10807.toInt = z10807.toInt) (by decide : (0 : Int32).toInt = 0) c10808
          exact K75 z10786 z10787 z10782 z10783 spz10787 soz10787 faz10787 _ _ _ _ (by omega) (by omega) (by omega) (by omega) (by omega) (by omega) hT hfr hrel pf0 pf1 pf2 hv10781 qz10783 qspz10787 qsoz10787 qfaz10787 hstk hspt hkf (lv_sub hl [2, 1, 0] rfl)
        · have w10810 := cv_ne (rfl : z10807.toInt = z10807.toInt) (by decide : (0 : Int32).toInt = 0) c10808
          exact K70 z10786 z10787 z10782 z10783 spz10787 soz10787 faz10787 _ _ _ _ (by omega) (by omega) (by omega) (by omega) (by omega) (by omega) hT hfr hrel pf0 pf1 pf2 hv10781 qz10783 qspz10787 qsoz10787 qfaz10787 hstk hspt hkf (lv_sub hl [2, 1, 0] rfl)
