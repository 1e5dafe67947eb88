set_option maxHeartbeats 4000000 in
set_option maxRecDepth 100000 in
theorem km60_X13_bounded (l : Launch) (G : KG) (tag : Nat → Nat) (L : List Nat) (Fo : Nat → va_E) (ho : okT G ttC tag L Fo) (p0 : Nat) (p1 : Int32) (p2 : Int32) (x0 : Nat) (x1 : Nat) (x2 : Nat) (x3 : Int32) (x4 : Int32) (x5 : Int32) (m0 : p0 ∈ L) (g0 : tag p0 = 46) (h1 : 1 ≤ p1.toInt ∧ p1.toInt ≤ 1) (h2 : 9 ≤ p2.toInt ∧ p2.toInt ≤ 9) (mx0 : x0 ∈ L) (gx0 : tag x0 = 44) (pf0 : fld Fo p0 4 = .ref x0) (mx1 : x1 ∈ L) (gx1 : tag x1 = 35) (pf1 : fld Fo x0 28 = .ref x1) (mx2 : x2 ∈ L) (gx2 : tag x2 = 36) (pf2 : fld Fo x0 29 = .ref x2) (hx3 : 0 ≤ x3.toInt ∧ x3.toInt ≤ 5) (pf3 : fld Fo p0 9 = .int x3) (hx4 : 0 ≤ x4.toInt ∧ x4.toInt ≤ 1000) (pf4 : fld Fo p0 8 = .int x4) (hx5 : 0 ≤ x5.toInt ∧ x5.toInt ≤ 7) (pf5 : fld Fo p0 13 = .int x5) (hkf : KF x3 x5) : TMi l yX13_bounded cX13_bounded 3 (some .int) { frames := 1, cells := 0, slots := 0, locals := 22 } G ttC tag L Fo [.ref p0, .int p1, .int p2] (fun r F1 => (1 ≤ r.toInt ∧ r.toInt ≤ 9) ∧ ((∀ b j : Nat, (tag b ≠ 46 ∨ j ≠ 9) → (tag b ≠ 46 ∨ j ≠ 13) → (tag b ≠ 46 ∨ j ≠ 14) → fld F1 b j = fld Fo b j) ∧ (∀ b j : Nat, elm F1 b j = elm Fo b j)) ∧ (∃ so sp fa : Int32, fld F1 p0 9 = .int so ∧ fld F1 p0 8 = .int sp ∧ fld F1 p0 13 = .int fa ∧ (0 ≤ so.toInt ∧ so.toInt ≤ 5) ∧ (0 ≤ sp.toInt ∧ sp.toInt ≤ 1000) ∧ (0 ≤ fa.toInt ∧ fa.toInt ≤ 7) ∧ STK x3 so ∧ SPT x3 x4 so sp ∧ KF so fa)) := by
  refine t_bodyi (y := yX13_bounded) (cd := cX13_bounded) (mL := 3) (rt := (some .int)) (rm := { frames := 1, cells := 0, slots := 0, locals := 22 }) (av := [.ref p0, .int p1, .int p2]) (by decide) (Nat.le_of_ble_eq_true rfl) ho ?_
  intro p e s m args below meth c ls A Q hQ X hT hl
  have hx := X.1.1
  have hb := X.1.2.1
  have hl : lv_has ls 3 [(0, .ref p0), (1, .int p1), (2, .int p2)] := hl
  obtain ⟨F, hFo⟩ : ∃ F : Nat → va_E, F = Fo := ⟨_, rfl⟩
  rw [← hFo] at hT pf0 pf1 pf2 pf3 pf4 pf5
  have hfr : (∀ b j : Nat, (tag b ≠ 46 ∨ j ≠ 9) → (tag b ≠ 46 ∨ j ≠ 13) → (tag b ≠ 46 ∨ j ≠ 14) → fld F b j = fld Fo b j) ∧ (∀ b j : Nat, elm F b j = elm Fo b j) := by
    rw [hFo]
    exact ⟨by intros; rfl, by intros; rfl⟩
  have hstk : STK x3 x3 := STK.rf
  have hspt : SPT x3 x4 x3 x4 := SPT.rf
  refine lv_aload_n hx hb dX13_bounded_0 rfl (lv_at hl 0 rfl) ?_
  refine t_get (C := RX13) (T := TX13) (N := 37) X hT m0 g0 rfl rfl 9 (by decide) qw_478 inlX13 rfl dX13_bounded_1 (fun v21403 hv21403 ov21403 => ?_)
  obtain rfl : v21403 = .int x3 := hv21403.symm.trans pf3
  refine lv_iconst (v := 3) hx hb dX13_bounded_4 (by decide) ?_
  refine lv_icmp_eq (tgt := 16) hx hb dX13_bounded_5 (by decide) (fun c21404 => ?_) (fun c21404 => ?_)
  · have w21405 := cv_eq (rfl : x3.toInt = x3.toInt) (by decide : (3 : Int32).toInt = 3) c21404
    refine lv_aload_n hx hb dX13_bounded_16 rfl (lv_at hl 0 rfl) ?_
    refine t_get (C := RX13) (T := TX13) (N := 37) X hT m0 g0 rfl rfl 12 (by decide) qw_516 inlX13 rfl dX13_bounded_17 (fun v21406 hv21406 ov21406 => ?_)
    obtain ⟨z21407, rfl, rz21407⟩ := okV_i ov21406
    refine lv_iload_n hx hb dX13_bounded_20 rfl (lv_at hl 1 rfl) ?_
    refine lv_iload_n hx hb dX13_bounded_21 rfl (lv_at hl 2 rfl) ?_
    refine t_cSi (n := 3) (As := [.int z21407, .int p1, .int p2]) (rest := []) X hT (km19_X13_within l G tag L F hT.2.2.2 z21407 p1 p2 ) qw_568 qw_569 qw_5 qw_570 ⟨by decide +kernel, by decide +kernel, by decide +kernel⟩ ⟨Nat.le_of_ble_eq_true rfl, Nat.le_of_ble_eq_true rfl⟩ hl rfl rfl (Nat.le_of_ble_eq_true rfl) dX13_bounded_22 ⟨Nat.le_of_ble_eq_true rfl, Nat.le_of_ble_eq_true rfl⟩ (fun z21408 F9 H locs hT hz21408 => ?_)
    obtain ⟨fz21408, hz21408, xz21408_0⟩ := hz21408
    rw [fz21408] at hT
    refine lv_if_ne (tgt := 33) hx hb dX13_bounded_25 (by decide) (fun c21409 => ?_) (fun c21409 => ?_)
    · have w21410 := cv_ne (rfl : z21408.toInt = z21408.toInt) (by decide : (0 : Int32).toInt = 0) c21409
      have w21411 := xz21408_0 (by omega)
      refine lv_aload_n hx hb dX13_bounded_33 rfl (lv_at hl 0 rfl) ?_
      refine t_get (C := RX13) (T := TX13) (N := 37) X hT m0 g0 rfl rfl 9 (by decide) qw_478 inlX13 rfl dX13_bounded_34 (fun v21412 hv21412 ov21412 => ?_)
      obtain rfl : v21412 = .int x3 := hv21412.symm.trans pf3
      refine lv_iconst (v := 5) hx hb dX13_bounded_37 (by decide) ?_
      refine lv_icmp_ne (tgt := 45) hx hb dX13_bounded_38 (by decide) (fun c21413 => ?_) (fun c21413 => ?_)
      · have w21414 := cv_ne (rfl : x3.toInt = x3.toInt) (by decide : (5 : Int32).toInt = 5) c21413
        refine lv_aload_n hx hb dX13_bounded_45 rfl (lv_at hl 0 rfl) ?_
        refine t_get (C := RX13) (T := TX13) (N := 37) X hT m0 g0 rfl rfl 12 (by decide) qw_516 inlX13 rfl dX13_bounded_46 (fun v21415 hv21415 ov21415 => ?_)
        obtain rfl : v21415 = .int z21407 := hv21415.symm.trans hv21406
        exact t_iret hQ X hT (⟨(by omega), hfr, ⟨x3, x4, x5, pf3, pf4, pf5, (by omega), (by omega), (by omega), hstk, hspt, hkf⟩⟩) (Nat.le_of_ble_eq_true rfl) (Nat.le_of_ble_eq_true rfl) dX13_bounded_49
      · have w21416 := cv_eq (rfl : x3.toInt = x3.toInt) (by decide : (5 : Int32).toInt = 5) c21413
        exfalso
        omega
    · have w21417 := cv_eq (rfl : z21408.toInt = z21408.toInt) (by decide : (0 : Int32).toInt = 0) c21409
      refine lv_aload_n hx hb dX13_bounded_28 rfl (lv_at hl 0 rfl) ?_
      refine lv_iconst (v := 4) hx hb dX13_bounded_29 (by decide) ?_
      refine t_cVv (n := 1) (C := RX13) (T := TX13) (N := 37) (As := [.int 4]) (rest := []) X hT (km10_X13_flaw l G tag L F hT.2.2.2 p0 4 x0 x1 x2 x3 x4 x5 m0 g0 (by decide) mx0 gx0 pf0 mx1 gx1 pf1 mx2 gx2 pf2 (by omega) pf3 (by omega) pf4 (by omega) pf5 hkf) m0 g0 rfl rfl qw_548 qw_549 qw_550 qw_5 qw_551 ⟨rfl, by decide +kernel, by decide +kernel, by decide +kernel⟩ ⟨Nat.le_of_ble_eq_true rfl, Nat.le_of_ble_eq_true rfl⟩ hl rfl rfl (Nat.le_of_ble_eq_true rfl) dX13_bounded_30 ⟨Nat.le_of_ble_eq_true rfl, Nat.le_of_ble_eq_true rfl⟩ (fun F H locs hT hz21418 => ?_)
      obtain ⟨yz21418, ⟨soz21418, spz21418, faz21418, qsoz21418, qspz21418, qfaz21418, rsoz21418, rspz21418, rfaz21418, stz21418, ptz21418, hkf, pxz21418_0⟩⟩ := hz21418
      have pf0 := (yz21418.1 _ 4 (Or.inr (by decide)) (Or.inr (by decide)) (Or.inr (by decide))).trans pf0
      have pf1 := (yz21418.1 _ 28 (Or.inr (by decide)) (Or.inr (by decide)) (Or.inr (by decide))).trans pf1
      have pf2 := (yz21418.1 _ 29 (Or.inr (by decide)) (Or.inr (by decide)) (Or.inr (by decide))).trans pf2
      have pf4 := (yz21418.1 _ 8 (Or.inr (by decide)) (Or.inr (by decide)) (Or.inr (by decide))).trans pf4
      have hv21406 := (yz21418.1 _ 12 (Or.inr (by decide)) (Or.inr (by decide)) (Or.inr (by decide))).trans hv21406
      have hfr : (∀ b j : Nat, (tag b ≠ 46 ∨ j ≠ 9) → (tag b ≠ 46 ∨ j ≠ 13) → (tag b ≠ 46 ∨ j ≠ 14) → fld F b j = fld Fo b j) ∧ (∀ b j : Nat, elm F b j = elm Fo b j) := ⟨fun b j n46_9 n46_13 n46_14 => (yz21418.1 b j n46_9 n46_13 n46_14).trans (hfr.1 b j n46_9 n46_13 n46_14), fun b j  => (yz21418.2 b j ).trans (hfr.2 b j )⟩
      have hstk := STK.tr hstk stz21418
      have hspt := SPT.tr hspt ptz21418
      refine lv_aload_n hx hb dX13_bounded_33 rfl (lv_at hl 0 rfl) ?_
      refine t_get (C := RX13) (T := TX13) (N := 37) X hT m0 g0 rfl rfl 9 (by decide) qw_478 inlX13 rfl dX13_bounded_34 (fun v21419 hv21419 ov21419 => ?_)
      obtain rfl : v21419 = .int soz21418 := hv21419.symm.trans qsoz21418
      refine lv_iconst (v := 5) hx hb dX13_bounded_37 (by decide) ?_
      refine lv_icmp_ne (tgt := 45) hx hb dX13_bounded_38 (by decide) (fun c21420 => ?_) (fun c21420 => ?_)
      · have w21421 := cv_ne (rfl : soz21418.toInt = soz21418.toInt) (by decide : (5 : Int32).toInt = 5) c21420
        exfalso
        omega
      · have w21422 := cv_eq (rfl : soz21418.toInt = soz21418.toInt) (by decide : (5 : Int32).toInt = 5) c21420
        refine lv_iload_n hx hb dX13_bounded_41 rfl (lv_at hl 1 rfl) ?_
        refine lv_goto (tgt := 49) hx hb dX13_bounded_42 (by decide) ?_
        exact t_iret hQ X hT (⟨(by omega), hfr, ⟨soz21418, spz21418, faz21418, qsoz21418, qspz21418, qfaz21418, (by omega), (by omega), (by omega), hstk, hspt, hkf⟩⟩) (Nat.le_of_ble_eq_true rfl) (Nat.le_of_ble_eq_true rfl) dX13_bounded_49
  · have w21423 := cv_ne (rfl : x3.toInt = x3.toInt) (by decide : (3 : Int32).toInt = 3) c21404
    refine lv_aload_n hx hb dX13_bounded_8 rfl (lv_at hl 0 rfl) ?_
    refine lv_iconst (v := 1) hx hb dX13_bounded_9 (by decide) ?_
    refine t_cVv (n := 1) (C := RX13) (T := TX13) (N := 37) (As := [.int 1]) (rest := []) X hT (km10_X13_flaw l G tag L F hT.2.2.2 p0 1 x0 x1 x2 x3 x4 x5 m0 g0 (by decide) mx0 gx0 pf0 mx1 gx1 pf1 mx2 gx2 pf2 (by omega) pf3 (by omega) pf4 (by omega) pf5 hkf) m0 g0 rfl rfl qw_548 qw_549 qw_550 qw_5 qw_551 ⟨rfl, by decide +kernel, by decide +kernel, by decide +kernel⟩ ⟨Nat.le_of_ble_eq_true rfl, Nat.le_of_ble_eq_true rfl⟩ hl rfl rfl (Nat.le_of_ble_eq_true rfl) dX13_bounded_10 ⟨Nat.le_of_ble_eq_true rfl, Nat.le_of_ble_eq_true rfl⟩ (fun F H locs hT hz21424 => ?_)
    obtain ⟨yz21424, ⟨soz21424, spz21424, faz21424, qsoz21424, qspz21424, qfaz21424, rsoz21424, rspz21424, rfaz21424, stz21424, ptz21424, hkf, pxz21424_0⟩⟩ := hz21424
    have pf0 := (yz21424.1 _ 4 (Or.inr (by decide)) (Or.inr (by decide)) (Or.inr (by decide))).trans pf0
    have pf1 := (yz21424.1 _ 28 (Or.inr (by decide)) (Or.inr (by decide)) (Or.inr (by decide))).trans pf1
    have pf2 := (yz21424.1 _ 29 (Or.inr (by decide)) (Or.inr (by decide)) (Or.inr (by decide))).trans pf2
    have pf4 := (yz21424.1 _ 8 (Or.inr (by decide)) (Or.inr (by decide)) (Or.inr (by decide))).trans pf4
    have hfr : (∀ b j : Nat, (tag b ≠ 46 ∨ j ≠ 9) → (tag b ≠ 46 ∨ j ≠ 13) → (tag b ≠ 46 ∨ j ≠ 14) → fld F b j = fld Fo b j) ∧ (∀ b j : Nat, elm F b j = elm Fo b j) := ⟨fun b j n46_9 n46_13 n46_14 => (yz21424.1 b j n46_9 n46_13 n46_14).trans (hfr.1 b j n46_9 n46_13 n46_14), fun b j  => (yz21424.2 b j ).trans (hfr.2 b j )⟩
    have hstk := STK.tr hstk stz21424
    have hspt := SPT.tr hspt ptz21424
    refine lv_goto (tgt := 33) hx hb dX13_bounded_13 (by decide) ?_
    refine lv_aload_n hx hb dX13_bounded_33 rfl (lv_at hl 0 rfl) ?_
    refine t_get (C := RX13) (T := TX13) (N := 37) X hT m0 g0 rfl rfl 9 (by decide) qw_478 inlX13 rfl dX13_bounded_34 (fun v21425 hv21425 ov21425 => ?_)
    obtain rfl : v21425 = .int soz21424 := hv21425.symm.trans qsoz21424
    refine lv_iconst (v := 5) hx hb dX13_bounded_37 (by decide) ?_
    refine lv_icmp_ne (tgt := 45) hx hb dX13_bounded_38 (by decide) (fun c21426 => ?_) (fun c21426 => ?_)
    · have w21427 := cv_ne (rfl : soz21424.toInt = soz21424.toInt) (by decide : (5 : Int32).toInt = 5) c21426
      exfalso
      omega
    · have w21428 := cv_eq (rfl : soz21424.toInt = soz21424.toInt) (by decide : (5 : Int32).toInt = 5) c21426
      refine lv_iload_n hx hb dX13_bounded_41 rfl (lv_at hl 1 rfl) ?_
      refine lv_goto (tgt := 49) hx hb dX13_bounded_42 (by decide) ?_
      exact t_iret hQ X hT (⟨(by omega), hfr, ⟨soz21424, spz21424, faz21424, qsoz21424, qspz21424, qfaz21424, (by omega), (by omega), (by omega), hstk, hspt, hkf⟩⟩) (Nat.le_of_ble_eq_true rfl) (Nat.le_of_ble_eq_true rfl) dX13_bounded_49
set_option maxHeartbeats 4000000 in
set_option maxRecDepth 100000 in
theorem km61_X13_readWhole (l : Launch) (G : KG) (tag : Nat → Nat) (L : List Nat) (Fo : Nat → va_E) (ho : okT G ttC tag L Fo) (p0 : Nat) (p1 : Int32) (p2 : Int32) (x0 : Nat) (x1 : Nat) (x2 : Nat) (x3 : Int32) (x4 : Int32) (x5 : Int32) (m0 : p0 ∈ L) (g0 : tag p0 = 46) (h1 : 1 ≤ p1.toInt ∧ p1.toInt ≤ 1) (h2 : 9 ≤ p2.toInt ∧ p2.toInt ≤ 9) (mx0 : x0 ∈ L) (gx0 : tag x0 = 44) (pf0 : fld Fo p0 4 = .ref x0) (mx1 : x1 ∈ L) (gx1 : tag x1 = 35) (pf1 : fld Fo x0 28 = .ref x1) (mx2 : x2 ∈ L) (gx2 : tag x2 = 36) (pf2 : fld Fo x0 29 = .ref x2) (hx3 : 0 ≤ x3.toInt ∧ x3.toInt ≤ 5) (pf3 : fld Fo p0 9 = .int x3) (hx4 : 0 ≤ x4.toInt ∧ x4.toInt ≤ 1000) (pf4 : fld Fo p0 8 = .int x4) (hx5 : 0 ≤ x5.toInt ∧ x5.toInt ≤ 7) (pf5 : fld Fo p0 13 = .int x5) (hkf : KF x3 x5) : TMi l yX13_readWhole cX13_readWhole 4 (some .int) { frames := 2, cells := 0, slots := 0, locals := 44 } G ttC tag L Fo [.ref p0, .int p1, .int p2] (fun r F1 => (1 ≤ r.toInt ∧ r.toInt ≤ 9) ∧ ((∀ b j : Nat, (tag b ≠ 46 ∨ j ≠ 8) → (tag b ≠ 46 ∨ j ≠ 9) → (tag b ≠ 46 ∨ j ≠ 10) → (tag b ≠ 46 ∨ j ≠ 11) → (tag b ≠ 46 ∨ j ≠ 12) → (tag b ≠ 46 ∨ j ≠ 13) → (tag b ≠ 46 ∨ j ≠ 14) → (tag b ≠ 46 ∨ j ≠ 15) → fld F1 b j = fld Fo b j) ∧ (∀ b j : Nat, elm F1 b j = elm Fo b j)) ∧ (∃ so sp fa : Int32, fld F1 p0 9 = .int so ∧ fld F1 p0 8 = .int sp ∧ fld F1 p0 13 = .int fa ∧ (0 ≤ so.toInt ∧ so.toInt ≤ 5) ∧ (0 ≤ sp.toInt ∧ sp.toInt ≤ 1000) ∧ (0 ≤ fa.toInt ∧ fa.toInt ≤ 7) ∧ STK x3 so ∧ SPT x3 x4 so sp ∧ KF so fa)) := by
  refine t_bodyi (y := yX13_readWhole) (cd := cX13_readWhole) (mL := 4) (rt := (some .int)) (rm := { frames := 2, cells := 0, slots := 0, locals := 44 }) (av := [.ref p0, .int p1, .int p2]) (by decide) (Nat.le_of_ble_eq_true rfl) ho ?_
  intro p e s m args below meth c ls A Q hQ X hT hl
  have hx := X.1.1
  have hb := X.1.2.1
  have hl : lv_has ls 4 [(0, .ref p0), (1, .int p1), (2, .int p2)] := hl
  obtain ⟨F, hFo⟩ : ∃ F : Nat → va_E, F = Fo := ⟨_, rfl⟩
  rw [← hFo] at hT pf0 pf1 pf2 pf3 pf4 pf5
  have hfr : (∀ b j : Nat, (tag b ≠ 46 ∨ j ≠ 8) → (tag b ≠ 46 ∨ j ≠ 9) → (tag b ≠ 46 ∨ j ≠ 10) → (tag b ≠ 46 ∨ j ≠ 11) → (tag b ≠ 46 ∨ j ≠ 12) → (tag b ≠ 46 ∨ j ≠ 13) → (tag b ≠ 46 ∨ j ≠ 14) → (tag b ≠ 46 ∨ j ≠ 15) → fld F b j = fld Fo b j) ∧ (∀ b j : Nat, elm F b j = elm Fo b j) := by
    rw [hFo]
    exact ⟨by intros; rfl, by intros; rfl⟩
  have hstk : STK x3 x3 := STK.rf
  have hspt : SPT x3 x4 x3 x4 := SPT.rf
  refine lv_aload_n hx hb dX13_readWhole_0 rfl (lv_at hl 0 rfl) ?_
  refine lv_iload_n hx hb dX13_readWhole_1 rfl (lv_at hl 1 rfl) ?_
  refine lv_iload_n hx hb dX13_readWhole_2 rfl (lv_at hl 2 rfl) ?_
  refine t_cVi (n := 2) (C := RX13) (T := TX13) (N := 37) (As := [.int p1, .int p2]) (rest := []) X hT (km60_X13_bounded l G tag L F hT.2.2.2 p0 p1 p2 x0 x1 x2 x3 x4 x5 m0 g0 (by omega) (by omega) mx0 gx0 pf0 mx1 gx1 pf1 mx2 gx2 pf2 (by omega) pf3 (by omega) pf4 (by omega) pf5 hkf) m0 g0 rfl rfl qw_564 qw_565 qw_566 qw_5 qw_567 ⟨rfl, by decide +kernel, by decide +kernel, by decide +kernel⟩ ⟨Nat.le_of_ble_eq_true rfl, Nat.le_of_ble_eq_true rfl⟩ hl rfl rfl (Nat.le_of_ble_eq_true rfl) dX13_readWhole_3 ⟨Nat.le_of_ble_eq_true rfl, Nat.le_of_ble_eq_true rfl⟩ (fun z21451 F H locs hT hz21451 => ?_)
  obtain ⟨hz21451, yz21451, ⟨soz21451, spz21451, faz21451, qsoz21451, qspz21451, qfaz21451, rsoz21451, rspz21451, rfaz21451, stz21451, ptz21451, hkf⟩⟩ := hz21451
  have pf0 := (yz21451.1 _ 4 (Or.inr (by decide)) (Or.inr (by decide)) (Or.inr (by decide))).trans pf0
  have pf1 := (yz21451.1 _ 28 (Or.inr (by decide)) (Or.inr (by decide)) (Or.inr (by decide))).trans pf1
  have pf2 := (yz21451.1 _ 29 (Or.inr (by decide)) (Or.inr (by decide)) (Or.inr (by decide))).trans pf2
  have pf4 := (yz21451.1 _ 8 (Or.inr (by decide)) (Or.inr (by decide)) (Or.inr (by decide))).trans pf4
  have hfr : (∀ b j : Nat, (tag b ≠ 46 ∨ j ≠ 8) → (tag b ≠ 46 ∨ j ≠ 9) → (tag b ≠ 46 ∨ j ≠ 10) → (tag b ≠ 46 ∨ j ≠ 11) → (tag b ≠ 46 ∨ j ≠ 12) → (tag b ≠ 46 ∨ j ≠ 13) → (tag b ≠ 46 ∨ j ≠ 14) → (tag b ≠ 46 ∨ j ≠ 15) → fld F b j = fld Fo b j) ∧ (∀ b j : Nat, elm F b j = elm Fo b j) := ⟨fun b j n46_8 n46_9 n46_10 n46_11 n46_12 n46_13 n46_14 n46_15 => (yz21451.1 b j n46_9 n46_13 n46_14).trans (hfr.1 b j n46_8 n46_9 n46_10 n46_11 n46_12 n46_13 n46_14 n46_15), fun b j  => (yz21451.2 b j ).trans (hfr.2 b j )⟩
  have hstk := STK.tr hstk stz21451
  have hspt := SPT.tr hspt ptz21451
  refine lv_istore_n (lv' := [(3, .int z21451), (0, .ref p0), (1, .int p1), (2, .int p2)]) hx hb dX13_readWhole_6 rfl hl (by decide) rfl (fun ls hl => ?_)
  refine lv_aload_n hx hb dX13_readWhole_7 rfl (lv_at hl 1 rfl) ?_
  refine t_cVv (n := 0) (C := RX13) (T := TX13) (N := 37) (As := []) (rest := []) X hT (km14_X13_goesOn l G tag L F hT.2.2.2 p0 x0 x1 x2 soz21451 spz21451 faz21451 m0 g0 mx0 gx0 pf0 mx1 gx1 pf1 mx2 gx2 pf2 (by omega) qsoz21451 (by omega) qspz21451 (by omega) qfaz21451 hkf) m0 g0 rfl rfl qw_508 qw_509 qw_510 qw_5 qw_511 ⟨rfl, by decide +kernel, by decide +kernel, by decide +kernel⟩ ⟨Nat.le_of_ble_eq_true rfl, Nat.le_of_ble_eq_true rfl⟩ hl rfl rfl (Nat.le_of_ble_eq_true rfl) dX13_readWhole_8 ⟨Nat.le_of_ble_eq_true rfl, Nat.le_of_ble_eq_true rfl⟩ (fun F H locs hT hz21452 => ?_)
  obtain ⟨yz21452, ⟨soz21452, spz21452, faz21452, qsoz21452, qspz21452, qfaz21452, rsoz21452, rspz21452, rfaz21452, stz21452, ptz21452, hkf⟩⟩ := hz21452
  have pf0 := (yz21452.1 _ 4 (Or.inr (by decide)) (Or.inr (by decide)) (Or.inr (by decide)) (Or.inr (by decide)) (Or.inr (by decide)) (Or.inr (by decide))).trans pf0
  have pf1 := (yz21452.1 _ 28 (Or.inr (by decide)) (Or.inr (by decide)) (Or.inr (by decide)) (Or.inr (by decide)) (Or.inr (by decide)) (Or.inr (by decide))).trans pf1
  have pf2 := (yz21452.1 _ 29 (Or.inr (by decide)) (Or.inr (by decide)) (Or.inr (by decide)) (Or.inr (by decide)) (Or.inr (by decide)) (Or.inr (by decide))).trans pf2
  have qfaz21451 := (yz21452.1 _ 13 (Or.inr (by decide)) (Or.inr (by decide)) (Or.inr (by decide)) (Or.inr (by decide)) (Or.inr (by decide)) (Or.inr (by decide))).trans qfaz21451
  have hfr : (∀ b j : Nat, (tag b ≠ 46 ∨ j ≠ 8) → (tag b ≠ 46 ∨ j ≠ 9) → (tag b ≠ 46 ∨ j ≠ 10) → (tag b ≠ 46 ∨ j ≠ 11) → (tag b ≠ 46 ∨ j ≠ 12) → (tag b ≠ 46 ∨ j ≠ 13) → (tag b ≠ 46 ∨ j ≠ 14) → (tag b ≠ 46 ∨ j ≠ 15) → fld F b j = fld Fo b j) ∧ (∀ b j : Nat, elm F b j = elm Fo b j) := ⟨fun b j n46_8 n46_9 n46_10 n46_11 n46_12 n46_13 n46_14 n46_15 => (yz21452.1 b j n46_8 n46_9 n46_10 n46_11 n46_12 n46_15).trans (hfr.1 b j n46_8 n46_9 n46_10 n46_11 n46_12 n46_13 n46_14 n46_15), fun b j  => (yz21452.2 b j ).trans (hfr.2 b j )⟩
  have hstk := STK.tr hstk stz21452
  have hspt := SPT.tr hspt ptz21452
  refine lv_iload_n hx hb dX13_readWhole_11 rfl (lv_at hl 0 rfl) ?_
  exact t_iret hQ X hT (⟨(by omega), hfr, ⟨soz21452, spz21452, faz21452, qsoz21452, qspz21452, qfaz21452, (by omega), (by omega), (by omega), hstk, hspt, hkf⟩⟩) (Nat.le_of_ble_eq_true rfl) (Nat.le_of_ble_eq_true rfl) dX13_readWhole_12
set_option maxHeartbeats 4000000 in
set_option maxRecDepth 100000 in
theorem km62_X13_readPart (l : Launch) (G : KG) (tag : Nat → Nat) (L : List Nat) (Fo : Nat → va_E) (ho : okT G ttC tag L Fo) (p0 : Nat) (p1 : Nat) (p2 : Int32) (p3 : Int32) (x0 : Nat) (x1 : Nat) (x2 : Nat) (x3 : Int32) (x4 : Int32) (x5 : Int32) (m0 : p0 ∈ L) (g0 : tag p0 = 46) (h1 : p1 < 77) (h2 : 1 ≤ p2.toInt ∧ p2.toInt ≤ 1) (h3 : 9 ≤ p3.toInt ∧ p3.toInt ≤ 9) (mx0 : x0 ∈ L) (gx0 : tag x0 = 44) (pf0 : fld Fo p0 4 = .ref x0) (mx1 : x1 ∈ L) (gx1 : tag x1 = 35) (pf1 : fld Fo x0 28 = .ref x1) (mx2 : x2 ∈ L) (gx2 : tag x2 = 36) (pf2 : fld Fo x0 29 = .ref x2) (hx3 : 0 ≤ x3.toInt ∧ x3.toInt ≤ 5) (pf3 : fld Fo p0 9 = .int x3) (hx4 : 0 ≤ x4.toInt ∧ x4.toInt ≤ 1000) (pf4 : fld Fo p0 8 = .int x4) (hx5 : 0 ≤ x5.toInt ∧ x5.toInt ≤ 7) (pf5 : fld Fo p0 13 = .int x5) (hkf : KF x3 x5) : TMi l yX13_readPart cX13_readPart 4 (some .int) { frames := 7, cells := 0, slots := 0, locals := 150 } G ttC tag L Fo [.ref p0, .ref (G.2 (100 + p1)), .int p2, .int p3] (fun r F1 => (1 ≤ r.toInt ∧ r.toInt ≤ 9) ∧ ((∀ b j : Nat, (tag b ≠ 46 ∨ j ≠ 8) → (tag b ≠ 46 ∨ j ≠ 9) → (tag b ≠ 46 ∨ j ≠ 10) → (tag b ≠ 46 ∨ j ≠ 11) → (tag b ≠ 46 ∨ j ≠ 12) → (tag b ≠ 46 ∨ j ≠ 13) → (tag b ≠ 46 ∨ j ≠ 14) → (tag b ≠ 46 ∨ j ≠ 15) → fld F1 b j = fld Fo b j) ∧ (∀ b j : Nat, elm F1 b j = elm Fo b j)) ∧ (∃ so sp fa : Int32, fld F1 p0 9 = .int so ∧ fld F1 p0 8 = .int sp ∧ fld F1 p0 13 = .int fa ∧ (0 ≤ so.toInt ∧ so.toInt ≤ 5) ∧ (0 ≤ sp.toInt ∧ sp.toInt ≤ 1000) ∧ (0 ≤ fa.toInt ∧ fa.toInt ≤ 7) ∧ STK x3 so ∧ SPT x3 x4 so sp ∧ KF so fa)) := by
  refine t_bodyi (y := yX13_readPart) (cd := cX13_readPart) (mL := 4) (rt := (some .int)) (rm := { frames := 7, cells := 0, slots := 0, locals := 150 }) (av := [.ref p0, .ref (G.2 (100 + p1)), .int p2, .int p3]) (by decide) (Nat.le_of_ble_eq_true rfl) ho ?_
  intro p e s m args below meth c ls A Q hQ X hT hl
  have hx := X.1.1
  have hb := X.1.2.1
  have hl : lv_has ls 4 [(0, .ref p0), (1, .ref (G.2 (100 + p1))), (2, .int p2), (3, .int p3)] := hl
  obtain ⟨F, hFo⟩ : ∃ F : Nat → va_E, F = Fo := ⟨_, rfl⟩
  rw [← hFo] at hT pf0 pf1 pf2 pf3 pf4 pf5
  have hfr : (∀ b j : Nat, (tag b ≠ 46 ∨ j ≠ 8) → (tag b ≠ 46 ∨ j ≠ 9) → (tag b ≠ 46 ∨ j ≠ 10) → (tag b ≠ 46 ∨ j ≠ 11) → (tag b ≠ 46 ∨ j ≠ 12) → (tag b ≠ 46 ∨ j ≠ 13) → (tag b ≠ 46 ∨ j ≠ 14) → (tag b ≠ 46 ∨ j ≠ 15) → fld F b j = fld Fo b j) ∧ (∀ b j : Nat, elm F b j = elm Fo b j) := by
    rw [hFo]
    exact ⟨by intros; rfl, by intros; rfl⟩
  have hstk : STK x3 x3 := STK.rf
  have hspt : SPT x3 x4 x3 x4 := SPT.rf
  refine lv_aload_n hx hb dX13_readPart_0 rfl (lv_at hl 0 rfl) ?_
  refine lv_aload_n hx hb dX13_readPart_1 rfl (lv_at hl 1 rfl) ?_
  refine t_cVv (n := 1) (C := RX13) (T := TX13) (N := 37) (As := [.ref (G.2 (100 + p1))]) (rest := []) X hT (km40_X13_needs l G tag L F hT.2.2.2 p0 p1 x0 x1 x2 x3 x4 x5 m0 g0 h1 mx0 gx0 pf0 mx1 gx1 pf1 mx2 gx2 pf2 (by omega) pf3 (by omega) pf4 (by omega) pf5 hkf) m0 g0 rfl rfl qw_556 qw_557 qw_558 qw_5 qw_559 ⟨rfl, by decide +kernel, by decide +kernel, by decide +kernel⟩ ⟨Nat.le_of_ble_eq_true rfl, Nat.le_of_ble_eq_true rfl⟩ hl rfl rfl (Nat.le_of_ble_eq_true rfl) dX13_readPart_2 ⟨Nat.le_of_ble_eq_true rfl, Nat.le_of_ble_eq_true rfl⟩ (fun F H locs hT hz21474 => ?_)
  obtain ⟨yz21474, ⟨soz21474, spz21474, faz21474, qsoz21474, qspz21474, qfaz21474, rsoz21474, rspz21474, rfaz21474, stz21474, ptz21474, hkf⟩⟩ := hz21474
  have pf0 := (yz21474.1 _ 4 (Or.inr (by decide)) (Or.inr (by decide)) (Or.inr (by decide)) (Or.inr (by decide)) (Or.inr (by decide)) (Or.inr (by decide)) (Or.inr (by decide)) (Or.inr (by decide))).trans pf0
  have pf1 := (yz21474.1 _ 28 (Or.inr (by decide)) (Or.inr (by decide)) (Or.inr (by decide)) (Or.inr (by decide)) (Or.inr (by decide)) (Or.inr (by decide)) (Or.inr (by decide)) (Or.inr (by decide))).trans pf1
  have pf2 := (yz21474.1 _ 29 (Or.inr (by decide)) (Or.inr (by decide)) (Or.inr (by decide)) (Or.inr (by decide)) (Or.inr (by decide)) (Or.inr (by decide)) (Or.inr (by decide)) (Or.inr (by decide))).trans pf2
  have hfr : (∀ b j : Nat, (tag b ≠ 46 ∨ j ≠ 8) → (tag b ≠ 46 ∨ j ≠ 9) → (tag b ≠ 46 ∨ j ≠ 10) → (tag b ≠ 46 ∨ j ≠ 11) → (tag b ≠ 46 ∨ j ≠ 12) → (tag b ≠ 46 ∨ j ≠ 13) → (tag b ≠ 46 ∨ j ≠ 14) → (tag b ≠ 46 ∨ j ≠ 15) → fld F b j = fld Fo b j) ∧ (∀ b j : Nat, elm F b j = elm Fo b j) := ⟨fun b j n46_8 n46_9 n46_10 n46_11 n46_12 n46_13 n46_14 n46_15 => (yz21474.1 b j n46_8 n46_9 n46_10 n46_11 n46_12 n46_13 n46_14 n46_15).trans (hfr.1 b j n46_8 n46_9 n46_10 n46_11 n46_12 n46_13 n46_14 n46_15), fun b j  => (yz21474.2 b j ).trans (hfr.2 b j )⟩
  have hstk := STK.tr hstk stz21474
  have hspt := SPT.tr hspt ptz21474
  refine lv_aload_n hx hb dX13_readPart_5 rfl (lv_at hl 0 rfl) ?_
  refine lv_iload_n hx hb dX13_readPart_6 rfl (lv_at hl 2 rfl) ?_
  refine lv_iload_n hx hb dX13_readPart_7 rfl (lv_at hl 3 rfl) ?_
  refine t_cVi (n := 2) (C := RX13) (T := TX13) (N := 37) (As := [.int p2, .int p3]) (rest := []) X hT (km61_X13_readWhole l G tag L F hT.2.2.2 p0 p2 p3 x0 x1 x2 soz21474 spz21474 faz21474 m0 g0 (by omega) (by omega) mx0 gx0 pf0 mx1 gx1 pf1 mx2 gx2 pf2 (by omega) qsoz21474 (by omega) qspz21474 (by omega) qfaz21474 hkf) m0 g0 rfl rfl qw_560 qw_561 qw_562 qw_5 qw_563 ⟨rfl, by decide +kernel, by decide +kernel, by decide +kernel⟩ ⟨Nat.le_of_ble_eq_true rfl, Nat.le_of_ble_eq_true rfl⟩ hl rfl rfl (Nat.le_of_ble_eq_true rfl) dX13_readPart_8 ⟨Nat.le_of_ble_eq_true rfl, Nat.le_of_ble_eq_true rfl⟩ (fun z21475 F H locs hT hz21475 => ?_)
  obtain ⟨hz21475, yz21475, ⟨soz21475, spz21475, faz21475, qsoz21475, qspz21475, qfaz21475, rsoz21475, rspz21475, rfaz21475, stz21475, ptz21475, hkf⟩⟩ := hz21475
  have pf0 := (yz21475.1 _ 4 (Or.inr (by decide)) (Or.inr (by decide)) (Or.inr (by decide)) (Or.inr (by decide)) (Or.inr (by decide)) (Or.inr (by decide)) (Or.inr (by decide)) (Or.inr (by decide))).trans pf0
  have pf1 := (yz21475.1 _ 28 (Or.inr (by decide)) (Or.inr (by decide)) (Or.inr (by decide)) (Or.inr (by decide)) (Or.inr (by decide)) (Or.inr (by decide)) (Or.inr (by decide)) (Or.inr (by decide))).trans pf1
  have pf2 := (yz21475.1 _ 29 (Or.inr (by decide)) (Or.inr (by decide)) (Or.inr (by decide)) (Or.inr (by decide)) (Or.inr (by decide)) (Or.inr (by decide)) (Or.inr (by decide)) (Or.inr (by decide))).trans pf2
  have hfr : (∀ b j : Nat, (tag b ≠ 46 ∨ j ≠ 8) → (tag b ≠ 46 ∨ j ≠ 9) → (tag b ≠ 46 ∨ j ≠ 10) → (tag b ≠ 46 ∨ j ≠ 11) → (tag b ≠ 46 ∨ j ≠ 12) → (tag b ≠ 46 ∨ j ≠ 13) → (tag b ≠ 46 ∨ j ≠ 14) → (tag b ≠ 46 ∨ j ≠ 15) → fld F b j = fld Fo b j) ∧ (∀ b j : Nat, elm F b j = elm Fo b j) := ⟨fun b j n46_8 n46_9 n46_10 n46_11 n46_12 n46_13 n46_14 n46_15 => (yz21475.1 b j n46_8 n46_9 n46_10 n46_11 n46_12 n46_13 n46_14 n46_15).trans (hfr.1 b j n46_8 n46_9 n46_10 n46_11 n46_12 n46_13 n46_14 n46_15), fun b j  => (yz21475.2 b j ).trans (hfr.2 b j )⟩
  have hstk := STK.tr hstk stz21475
  have hspt := SPT.tr hspt ptz21475
  exact t_iret hQ X hT (⟨(by omega), hfr, ⟨soz21475, spz21475, faz21475, qsoz21475, qspz21475, qfaz21475, (by omega), (by omega), (by omega), hstk, hspt, hkf⟩⟩) (Nat.le_of_ble_eq_true rfl) (Nat.le_of_ble_eq_true rfl) dX13_readPart_11
set_option maxHeartbeats 4000000 in
set_option maxRecDepth 100000 in
theorem km63_X13_readPart (l : Launch) (G : KG) (tag : Nat → Nat) (L : List Nat) (Fo : Nat → va_E) (ho : okT G ttC tag L Fo) (p0 : Nat) (p1 : Nat) (p2 : Int32) (p3 : Int32) (x0 : Nat) (x1 : Nat) (x2 : Nat) (x3 : Int32) (x4 : Int32) (x5 : Int32) (m0 : p0 ∈ L) (g0 : tag p0 = 46) (h1 : p1 < 77) (h2 : 0 ≤ p2.toInt ∧ p2.toInt ≤ 0) (h3 : 9 ≤ p3.toInt ∧ p3.toInt ≤ 9) (mx0 : x0 ∈ L) (gx0 : tag x0 = 44) (pf0 : fld Fo p0 4 = .ref x0) (mx1 : x1 ∈ L) (gx1 : tag x1 = 35) (pf1 : fld Fo x0 28 = .ref x1) (mx2 : x2 ∈ L) (gx2 : tag x2 = 36) (pf2 : fld Fo x0 29 = .ref x2) (hx3 : 0 ≤ x3.toInt ∧ x3.toInt ≤ 5) (pf3 : fld Fo p0 9 = .int x3) (hx4 : 0 ≤ x4.toInt ∧ x4.toInt ≤ 1000) (pf4 : fld Fo p0 8 = .int x4) (hx5 : 0 ≤ x5.toInt ∧ x5.toInt ≤ 7) (pf5 : fld Fo p0 13 = .int x5) (hkf : KF x3 x5) : TMi l yX13_readPart cX13_readPart 4 (some .int) { frames := 7, cells := 0, slots := 0, locals := 150 } G ttC tag L Fo [.ref p0, .ref (G.2 (100 + p1)), .int p2, .int p3] (fun r F1 => (0 ≤ r.toInt ∧ r.toInt ≤ 12) ∧ ((∀ b j : Nat, (tag b ≠ 46 ∨ j ≠ 8) → (tag b ≠ 46 ∨ j ≠ 9) → (tag b ≠ 46 ∨ j ≠ 10) → (tag b ≠ 46 ∨ j ≠ 11) → (tag b ≠ 46 ∨ j ≠ 12) → (tag b ≠ 46 ∨ j ≠ 13) → (tag b ≠ 46 ∨ j ≠ 14) → (tag b ≠ 46 ∨ j ≠ 15) → fld F1 b j = fld Fo b j) ∧ (∀ b j : Nat, elm F1 b j = elm Fo b j)) ∧ (∃ so sp fa : Int32, fld F1 p0 9 = .int so ∧ fld F1 p0 8 = .int sp ∧ fld F1 p0 13 = .int fa ∧ (0 ≤ so.toInt ∧ so.toInt ≤ 5) ∧ (0 ≤ sp.toInt ∧ sp.toInt ≤ 1000) ∧ (0 ≤ fa.toInt ∧ fa.toInt ≤ 7) ∧ STK x3 so ∧ SPT x3 x4 so sp ∧ KF so fa)) := by
  refine t_bodyi (y := yX13_readPart) (cd := cX13_readPart) (mL := 4) (rt := (some .int)) (rm := { frames := 7, cells := 0, slots := 0, locals := 150 }) (av := [.ref p0, .ref (G.2 (100 + p1)), .int p2, .int p3]) (by decide) (Nat.le_of_ble_eq_true rfl) ho ?_
  intro p e s m args below meth c ls A Q hQ X hT hl
  have hx := X.1.1
  have hb := X.1.2.1
  have hl : lv_has ls 4 [(0, .ref p0), (1, .ref (G.2 (100 + p1))), (2, .int p2), (3, .int p3)] := hl
  obtain ⟨F, hFo⟩ : ∃ F : Nat → va_E, F = Fo := ⟨_, rfl⟩
  rw [← hFo] at hT pf0 pf1 pf2 pf3 pf4 pf5
  have hfr : (∀ b j : Nat, (tag b ≠ 46 ∨ j ≠ 8) → (tag b ≠ 46 ∨ j ≠ 9) → (tag b ≠ 46 ∨ j ≠ 10) → (tag b ≠ 46 ∨ j ≠ 11) → (tag b ≠ 46 ∨ j ≠ 12) → (tag b ≠ 46 ∨ j ≠ 13) → (tag b ≠ 46 ∨ j ≠ 14) → (tag b ≠ 46 ∨ j ≠ 15) → fld F b j = fld Fo b j) ∧ (∀ b j : Nat, elm F b j = elm Fo b j) := by
    rw [hFo]
    exact ⟨by intros; rfl, by intros; rfl⟩
  have hstk : STK x3 x3 := STK.rf
  have hspt : SPT x3 x4 x3 x4 := SPT.rf
  refine lv_aload_n hx hb dX13_readPart_0 rfl (lv_at hl 0 rfl) ?_
  refine lv_aload_n hx hb dX13_readPart_1 rfl (lv_at hl 1 rfl) ?_
  refine t_cVv (n := 1) (C := RX13) (T := TX13) (N := 37) (As := [.ref (G.2 (100 + p1))]) (rest := []) X hT (km40_X13_needs l G tag L F hT.2.2.2 p0 p1 x0 x1 x2 x3 x4 x5 m0 g0 h1 mx0 gx0 pf0 mx1 gx1 pf1 mx2 gx2 pf2 (by omega) pf3 (by omega) pf4 (by omega) pf5 hkf) m0 g0 rfl rfl qw_556 qw_557 qw_558 qw_5 qw_559 ⟨rfl, by decide +kernel, by decide +kernel, by decide +kernel⟩ ⟨Nat.le_of_ble_eq_true rfl, Nat.le_of_ble_eq_true rfl⟩ hl rfl rfl (Nat.le_of_ble_eq_true rfl) dX13_readPart_2 ⟨Nat.le_of_ble_eq_true rfl, Nat.le_of_ble_eq_true rfl⟩ (fun F H locs hT hz21499 => ?_)
  obtain ⟨yz21499, ⟨soz21499, spz21499, faz21499, qsoz21499, qspz21499, qfaz21499, rsoz21499, rspz21499, rfaz21499, stz21499, ptz21499, hkf⟩⟩ := hz21499
  have pf0 := (yz21499.1 _ 4 (Or.inr (by decide)) (Or.inr (by decide)) (Or.inr (by decide)) (Or.inr (by decide)) (Or.inr (by decide)) (Or.inr (by decide)) (Or.inr (by decide)) (Or.inr (by decide))).trans pf0
  have pf1 := (yz21499.1 _ 28 (Or.inr (by decide)) (Or.inr (by decide)) (Or.inr (by decide)) (Or.inr (by decide)) (Or.inr (by decide)) (Or.inr (by decide)) (Or.inr (by decide)) (Or.inr (by decide))).trans pf1
  have pf2 := (yz21499.1 _ 29 (Or.inr (by decide)) (Or.inr (by decide)) (Or.inr (by decide)) (Or.inr (by decide)) (Or.inr (by decide)) (Or.inr (by decide)) (Or.inr (by decide)) (Or.inr (by decide))).trans pf2
  have hfr : (∀ b j : Nat, (tag b ≠ 46 ∨ j ≠ 8) → (tag b ≠ 46 ∨ j ≠ 9) → (tag b ≠ 46 ∨ j ≠ 10) → (tag b ≠ 46 ∨ j ≠ 11) → (tag b ≠ 46 ∨ j ≠ 12) → (tag b ≠ 46 ∨ j ≠ 13) → (tag b ≠ 46 ∨ j ≠ 14) → (tag b ≠ 46 ∨ j ≠ 15) → fld F b j = fld Fo b j) ∧ (∀ b j : Nat, elm F b j = elm Fo b j) := ⟨fun b j n46_8 n46_9 n46_10 n46_11 n46_12 n46_13 n46_14 n46_15 => (yz21499.1 b j n46_8 n46_9 n46_10 n46_11 n46_12 n46_13 n46_14 n46_15).trans (hfr.1 b j n46_8 n46_9 n46_10 n46_11 n46_12 n46_13 n46_14 n46_15), fun b j  => (yz21499.2 b j ).trans (hfr.2 b j )⟩
  have hstk := STK.tr hstk stz21499
  have hspt := SPT.tr hspt ptz21499
  refine lv_aload_n hx hb dX13_readPart_5 rfl (lv_at hl 0 rfl) ?_
  refine lv_iload_n hx hb dX13_readPart_6 rfl (lv_at hl 2 rfl) ?_
  refine lv_iload_n hx hb dX13_readPart_7 rfl (lv_at hl 3 rfl) ?_
  refine t_cVi (n := 2) (C := RX13) (T := TX13) (N := 37) (As := [.int p2, .int p3]) (rest := []) X hT (km39_X13_readWhole l G tag L F hT.2.2.2 p0 p2 p3 x0 x1 x2 soz21499 spz21499 faz21499 m0 g0 (by omega) (by omega) mx0 gx0 pf0 mx1 gx1 pf1 mx2 gx2 pf2 (by omega) qsoz21499 (by omega) qspz21499 (by omega) qfaz21499 hkf) m0 g0 rfl rfl qw_560 qw_561 qw_562 qw_5 qw_563 ⟨rfl, by decide +kernel, by decide +kernel, by decide +kernel⟩ ⟨Nat.le_of_ble_eq_true rfl, Nat.le_of_ble_eq_true rfl⟩ hl rfl rfl (Nat.le_of_ble_eq_true rfl) dX13_readPart_8 ⟨Nat.le_of_ble_eq_true rfl, Nat.le_of_ble_eq_true rfl⟩ (fun z21500 F H locs hT hz21500 => ?_)
  obtain ⟨hz21500, yz21500, ⟨soz21500, spz21500, faz21500, qsoz21500, qspz21500, qfaz21500, rsoz21500, rspz21500, rfaz21500, stz21500, ptz21500, hkf⟩⟩ := hz21500
  have pf0 := (yz21500.1 _ 4 (Or.inr (by decide)) (Or.inr (by decide)) (Or.inr (by decide)) (Or.inr (by decide)) (Or.inr (by decide)) (Or.inr (by decide)) (Or.inr (by decide)) (Or.inr (by decide))).trans pf0
  have pf1 := (yz21500.1 _ 28 (Or.inr (by decide)) (Or.inr (by decide)) (Or.inr (by decide)) (Or.inr (by decide)) (Or.inr (by decide)) (Or.inr (by decide)) (Or.inr (by decide)) (Or.inr (by decide))).trans pf1
  have pf2 := (yz21500.1 _ 29 (Or.inr (by decide)) (Or.inr (by decide)) (Or.inr (by decide)) (Or.inr (by decide)) (Or.inr (by decide)) (Or.inr (by decide)) (Or.inr (by decide)) (Or.inr (by decide))).trans pf2
  have hfr : (∀ b j : Nat, (tag b ≠ 46 ∨ j ≠ 8) → (tag b ≠ 46 ∨ j ≠ 9) → (tag b ≠ 46 ∨ j ≠ 10) → (tag b ≠ 46 ∨ j ≠ 11) → (tag b ≠ 46 ∨ j ≠ 12) → (tag b ≠ 46 ∨ j ≠ 13) → (tag b ≠ 46 ∨ j ≠ 14) → (tag b ≠ 46 ∨ j ≠ 15) → fld F b j = fld Fo b j) ∧ (∀ b j : Nat, elm F b j = elm Fo b j) := ⟨fun b j n46_8 n46_9 n46_10 n46_11 n46_12 n46_13 n46_14 n46_15 => (yz21500.1 b j n46_8 n46_9 n46_10 n46_11 n46_12 n46_13 n46_14 n46_15).trans (hfr.1 b j n46_8 n46_9 n46_10 n46_11 n46_12 n46_13 n46_14 n46_15), fun b j  => (yz21500.2 b j ).trans (hfr.2 b j )⟩
  have hstk := STK.tr hstk stz21500
  have hspt := SPT.tr hspt ptz21500
  exact t_iret hQ X hT (⟨(by omega), hfr, ⟨soz21500, spz21500, faz21500, qsoz21500, qspz21500, qfaz21500, (by omega), (by omega), (by omega), hstk, hspt, hkf⟩⟩) (Nat.le_of_ble_eq_true rfl) (Nat.le_of_ble_eq_true rfl) dX13_readPart_11
set_option maxHeartbeats 4000000 in
set_option maxRecDepth 100000 in
theorem km64_X13_bounded (l : Launch) (G : KG) (tag : Nat → Nat) (L : List Nat) (Fo : Nat → va_E) (ho : okT G ttC tag L Fo) (p0 : Nat) (p1 : Int32) (p2 : Int32) (x0 : Nat) (x1 : Nat) (x2 : Nat) (x3 : Int32) (x4 : Int32) (x5 : Int32) (m0 : p0 ∈ L) (g0 : tag p0 = 46) (h1 : 1 ≤ p1.toInt ∧ p1.toInt ≤ 1) (h2 : 99 ≤ p2.toInt ∧ p2.toInt ≤ 99) (mx0 : x0 ∈ L) (gx0 : tag x0 = 44) (pf0 : fld Fo p0 4 = .ref x0) (mx1 : x1 ∈ L) (gx1 : tag x1 = 35) (pf1 : fld Fo x0 28 = .ref x1) (mx2 : x2 ∈ L) (gx2 : tag x2 = 36) (pf2 : fld Fo x0 29 = .ref x2) (hx3 : 0 ≤ x3.toInt ∧ x3.toInt ≤ 5) (pf3 : fld Fo p0 9 = .int x3) (hx4 : 0 ≤ x4.toInt ∧ x4.toInt ≤ 1000) (pf4 : fld Fo p0 8 = .int x4) (hx5 : 0 ≤ x5.toInt ∧ x5.toInt ≤ 7) (pf5 : fld Fo p0 13 = .int x5) (hkf : KF x3 x5) : TMi l yX13_bounded cX13_bounded 3 (some .int) { frames := 1, cells := 0, slots := 0, locals := 22 } G ttC tag L Fo [.ref p0, .int p1, .int p2] (fun r F1 => (1 ≤ r.toInt ∧ r.toInt ≤ 99) ∧ ((∀ b j : Nat, (tag b ≠ 46 ∨ j ≠ 9) → (tag b ≠ 46 ∨ j ≠ 13) → (tag b ≠ 46 ∨ j ≠ 14) → fld F1 b j = fld Fo b j) ∧ (∀ b j : Nat, elm F1 b j = elm Fo b j)) ∧ (∃ so sp fa : Int32, fld F1 p0 9 = .int so ∧ fld F1 p0 8 = .int sp ∧ fld F1 p0 13 = .int fa ∧ (0 ≤ so.toInt ∧ so.toInt ≤ 5) ∧ (0 ≤ sp.toInt ∧ sp.toInt ≤ 1000) ∧ (0 ≤ fa.toInt ∧ fa.toInt ≤ 7) ∧ STK x3 so ∧ SPT x3 x4 so sp ∧ KF so fa)) := by
  refine t_bodyi (y := yX13_bounded) (cd := cX13_bounded) (mL := 3) (rt := (some .int)) (rm := { frames := 1, cells := 0, slots := 0, locals := 22 }) (av := [.ref p0, .int p1, .int p2]) (by decide) (Nat.le_of_ble_eq_true rfl) ho ?_
  intro p e s m args below meth c ls A Q hQ X hT hl
  have hx := X.1.1
  have hb := X.1.2.1
  have hl : lv_has ls 3 [(0, .ref p0), (1, .int p1), (2, .int p2)] := hl
  obtain ⟨F, hFo⟩ : ∃ F : Nat → va_E, F = Fo := ⟨_, rfl⟩
  rw [← hFo] at hT pf0 pf1 pf2 pf3 pf4 pf5
  have hfr : (∀ b j : Nat, (tag b ≠ 46 ∨ j ≠ 9) → (tag b ≠ 46 ∨ j ≠ 13) → (tag b ≠ 46 ∨ j ≠ 14) → fld F b j = fld Fo b j) ∧ (∀ b j : Nat, elm F b j = elm Fo b j) := by
    rw [hFo]
    exact ⟨by intros; rfl, by intros; rfl⟩
  have hstk : STK x3 x3 := STK.rf
  have hspt : SPT x3 x4 x3 x4 := SPT.rf
  refine lv_aload_n hx hb dX13_bounded_0 rfl (lv_at hl 0 rfl) ?_
  refine t_get (C := RX13) (T := TX13) (N := 37) X hT m0 g0 rfl rfl 9 (by decide) qw_478 inlX13 rfl dX13_bounded_1 (fun v21790 hv21790 ov21790 => ?_)
  obtain rfl : v21790 = .int x3 := hv21790.symm.trans pf3
  refine lv_iconst (v := 3) hx hb dX13_bounded_4 (by decide) ?_
  refine lv_icmp_eq (tgt := 16) hx hb dX13_bounded_5 (by decide) (fun c21791 => ?_) (fun c21791 => ?_)
  · have w21792 := cv_eq (rfl : x3.toInt = x3.toInt) (by decide : (3 : Int32).toInt = 3) c21791
    refine lv_aload_n hx hb dX13_bounded_16 rfl (lv_at hl 0 rfl) ?_
    refine t_get (C := RX13) (T := TX13) (N := 37) X hT m0 g0 rfl rfl 12 (by decide) qw_516 inlX13 rfl dX13_bounded_17 (fun v21793 hv21793 ov21793 => ?_)
    obtain ⟨z21794, rfl, rz21794⟩ := okV_i ov21793
    refine lv_iload_n hx hb dX13_bounded_20 rfl (lv_at hl 1 rfl) ?_
    refine lv_iload_n hx hb dX13_bounded_21 rfl (lv_at hl 2 rfl) ?_
    refine t_cSi (n := 3) (As := [.int z21794, .int p1, .int p2]) (rest := []) X hT (km19_X13_within l G tag L F hT.2.2.2 z21794 p1 p2 ) qw_568 qw_569 qw_5 qw_570 ⟨by decide +kernel, by decide +kernel, by decide +kernel⟩ ⟨Nat.le_of_ble_eq_true rfl, Nat.le_of_ble_eq_true rfl⟩ hl rfl rfl (Nat.le_of_ble_eq_true rfl) dX13_bounded_22 ⟨Nat.le_of_ble_eq_true rfl, Nat.le_of_ble_eq_true rfl⟩ (fun z21795 F9 H locs hT hz21795 => ?_)
    obtain ⟨fz21795, hz21795, xz21795_0⟩ := hz21795
    rw [fz21795] at hT
    refine lv_if_ne (tgt := 33) hx hb dX13_bounded_25 (by decide) (fun c21796 => ?_) (fun c21796 => ?_)
    · have w21797 := cv_ne (rfl : z21795.toInt = z21795.toInt) (by decide : (0 : Int32).toInt = 0) c21796
      have w21798 := xz21795_0 (by omega)
      refine lv_aload_n hx hb dX13_bounded_33 rfl (lv_at hl 0 rfl) ?_
      refine t_get (C := RX13) (T := TX13) (N := 37) X hT m0 g0 rfl rfl 9 (by decide) qw_478 inlX13 rfl dX13_bounded_34 (fun v21799 hv21799 ov21799 => ?_)
      obtain rfl : v21799 = .int x3 := hv21799.symm.trans pf3
      refine lv_iconst (v := 5) hx hb dX13_bounded_37 (by decide) ?_
      refine lv_icmp_ne (tgt := 45) hx hb dX13_bounded_38 (by decide) (fun c21800 => ?_) (fun c21800 => ?_)
      · have w21801 := cv_ne (rfl : x3.toInt = x3.toInt) (by decide : (5 : Int32).toInt = 5) c21800
        refine lv_aload_n hx hb dX13_bounded_45 rfl (lv_at hl 0 rfl) ?_
        refine t_get (C := RX13) (T := TX13) (N := 37) X hT m0 g0 rfl rfl 12 (by decide) qw_516 inlX13 rfl dX13_bounded_46 (fun v21802 hv21802 ov21802 => ?_)
        obtain rfl : v21802 = .int z21794 := hv21802.symm.trans hv21793
        exact t_iret hQ X hT (⟨(by omega), hfr, ⟨x3, x4, x5, pf3, pf4, pf5, (by omega), (by omega), (by omega), hstk, hspt, hkf⟩⟩) (Nat.le_of_ble_eq_true rfl) (Nat.le_of_ble_eq_true rfl) dX13_bounded_49
      · have w21803 := cv_eq (rfl : x3.toInt = x3.toInt) (by decide : (5 : Int32).toInt = 5) c21800
        exfalso
        omega
    · have w21804 := cv_eq (rfl : z21795.toInt = z21795.toInt) (by decide : (0 : Int32).toInt = 0) c21796
      refine lv_aload_n hx hb dX13_bounded_28 rfl (lv_at hl 0 rfl) ?_
      refine lv_iconst (v := 4) hx hb dX13_bounded_29 (by decide) ?_
      refine t_cVv (n := 1) (C := RX13) (T := TX13) (N := 37) (As := [.int 4]) (rest := []) X hT (km10_X13_flaw l G tag L F hT.2.2.2 p0 4 x0 x1 x2 x3 x4 x5 m0 g0 (by decide) mx0 gx0 pf0 mx1 gx1 pf1 mx2 gx2 pf2 (by omega) pf3 (by omega) pf4 (by omega) pf5 hkf) m0 g0 rfl rfl qw_548 qw_549 qw_550 qw_5 qw_551 ⟨rfl, by decide +kernel, by decide +kernel, by decide +kernel⟩ ⟨Nat.le_of_ble_eq_true rfl, Nat.le_of_ble_eq_true rfl⟩ hl rfl rfl (Nat.le_of_ble_eq_true rfl) dX13_bounded_30 ⟨Nat.le_of_ble_eq_true rfl, Nat.le_of_ble_eq_true rfl⟩ (fun F H locs hT hz21805 => ?_)
      obtain ⟨yz21805, ⟨soz21805, spz21805, faz21805, qsoz21805, qspz21805, qfaz21805, rsoz21805, rspz21805, rfaz21805, stz21805, ptz21805, hkf, pxz21805_0⟩⟩ := hz21805
      have pf0 := (yz21805.1 _ 4 (Or.inr (by decide)) (Or.inr (by decide)) (Or.inr (by decide))).trans pf0
      have pf1 := (yz21805.1 _ 28 (Or.inr (by decide)) (Or.inr (by decide)) (Or.inr (by decide))).trans pf1
      have pf2 := (yz21805.1 _ 29 (Or.inr (by decide)) (Or.inr (by decide)) (Or.inr (by decide))).trans pf2
      have pf4 := (yz21805.1 _ 8 (Or.inr (by decide)) (Or.inr (by decide)) (Or.inr (by decide))).trans pf4
      have hv21793 := (yz21805.1 _ 12 (Or.inr (by decide)) (Or.inr (by decide)) (Or.inr (by decide))).trans hv21793
      have hfr : (∀ b j : Nat, (tag b ≠ 46 ∨ j ≠ 9) → (tag b ≠ 46 ∨ j ≠ 13) → (tag b ≠ 46 ∨ j ≠ 14) → fld F b j = fld Fo b j) ∧ (∀ b j : Nat, elm F b j = elm Fo b j) := ⟨fun b j n46_9 n46_13 n46_14 => (yz21805.1 b j n46_9 n46_13 n46_14).trans (hfr.1 b j n46_9 n46_13 n46_14), fun b j  => (yz21805.2 b j ).trans (hfr.2 b j )⟩
      have hstk := STK.tr hstk stz21805
      have hspt := SPT.tr hspt ptz21805
      refine lv_aload_n hx hb dX13_bounded_33 rfl (lv_at hl 0 rfl) ?_
      refine t_get (C := RX13) (T := TX13) (N := 37) X hT m0 g0 rfl rfl 9 (by decide) qw_478 inlX13 rfl dX13_bounded_34 (fun v21806 hv21806 ov21806 => ?_)
      obtain rfl : v21806 = .int soz21805 := hv21806.symm.trans qsoz21805
      refine lv_iconst (v := 5) hx hb dX13_bounded_37 (by decide) ?_
      refine lv_icmp_ne (tgt := 45) hx hb dX13_bounded_38 (by decide) (fun c21807 => ?_) (fun c21807 => ?_)
      · have w21808 := cv_ne (rfl : soz21805.toInt = soz21805.toInt) (by decide : (5 : Int32).toInt = 5) c21807
        exfalso
        omega
      · have w21809 := cv_eq (rfl : soz21805.toInt = soz21805.toInt) (by decide : (5 : Int32).toInt = 5) c21807
        refine lv_iload_n hx hb dX13_bounded_41 rfl (lv_at hl 1 rfl) ?_
        refine lv_goto (tgt := 49) hx hb dX13_bounded_42 (by decide) ?_
        exact t_iret hQ X hT (⟨(by omega), hfr, ⟨soz21805, spz21805, faz21805, qsoz21805, qspz21805, qfaz21805, (by omega), (by omega), (by omega), hstk, hspt, hkf⟩⟩) (Nat.le_of_ble_eq_true rfl) (Nat.le_of_ble_eq_true rfl) dX13_bounded_49
  · have w21810 := cv_ne (rfl : x3.toInt = x3.toInt) (by decide : (3 : Int32).toInt = 3) c21791
    refine lv_aload_n hx hb dX13_bounded_8 rfl (lv_at hl 0 rfl) ?_
    refine lv_iconst (v := 1) hx hb dX13_bounded_9 (by decide) ?_
    refine t_cVv (n := 1) (C := RX13) (T := TX13) (N := 37) (As := [.int 1]) (rest := []) X hT (km10_X13_flaw l G tag L F hT.2.2.2 p0 1 x0 x1 x2 x3 x4 x5 m0 g0 (by decide) mx0 gx0 pf0 mx1 gx1 pf1 mx2 gx2 pf2 (by omega) pf3 (by omega) pf4 (by omega) pf5 hkf) m0 g0 rfl rfl qw_548 qw_549 qw_550 qw_5 qw_551 ⟨rfl, by decide +kernel, by decide +kernel, by decide +kernel⟩ ⟨Nat.le_of_ble_eq_true rfl, Nat.le_of_ble_eq_true rfl⟩ hl rfl rfl (Nat.le_of_ble_eq_true rfl) dX13_bounded_10 ⟨Nat.le_of_ble_eq_true rfl, Nat.le_of_ble_eq_true rfl⟩ (fun F H locs hT hz21811 => ?_)
    obtain ⟨yz21811, ⟨soz21811, spz21811, faz21811, qsoz21811, qspz21811, qfaz21811, rsoz21811, rspz21811, rfaz21811, stz21811, ptz21811, hkf, pxz21811_0⟩⟩ := hz21811
    have pf0 := (yz21811.1 _ 4 (Or.inr (by decide)) (Or.inr (by decide)) (Or.inr (by decide))).trans pf0
    have pf1 := (yz21811.1 _ 28 (Or.inr (by decide)) (Or.inr (by decide)) (Or.inr (by decide))).trans pf1
    have pf2 := (yz21811.1 _ 29 (Or.inr (by decide)) (Or.inr (by decide)) (Or.inr (by decide))).trans pf2
    have pf4 := (yz21811.1 _ 8 (Or.inr (by decide)) (Or.inr (by decide)) (Or.inr (by decide))).trans pf4
    have hfr : (∀ b j : Nat, (tag b ≠ 46 ∨ j ≠ 9) → (tag b ≠ 46 ∨ j ≠ 13) → (tag b ≠ 46 ∨ j ≠ 14) → fld F b j = fld Fo b j) ∧ (∀ b j : Nat, elm F b j = elm Fo b j) := ⟨fun b j n46_9 n46_13 n46_14 => (yz21811.1 b j n46_9 n46_13 n46_14).trans (hfr.1 b j n46_9 n46_13 n46_14), fun b j  => (yz21811.2 b j ).trans (hfr.2 b j )⟩
    have hstk := STK.tr hstk stz21811
    have hspt := SPT.tr hspt ptz21811
    refine lv_goto (tgt := 33) hx hb dX13_bounded_13 (by decide) ?_
    refine lv_aload_n hx hb dX13_bounded_33 rfl (lv_at hl 0 rfl) ?_
    refine t_get (C := RX13) (T := TX13) (N := 37) X hT m0 g0 rfl rfl 9 (by decide) qw_478 inlX13 rfl dX13_bounded_34 (fun v21812 hv21812 ov21812 => ?_)
    obtain rfl : v21812 = .int soz21811 := hv21812.symm.trans qsoz21811
    refine lv_iconst (v := 5) hx hb dX13_bounded_37 (by decide) ?_
    refine lv_icmp_ne (tgt := 45) hx hb dX13_bounded_38 (by decide) (fun c21813 => ?_) (fun c21813 => ?_)
    · have w21814 := cv_ne (rfl : soz21811.toInt = soz21811.toInt) (by decide : (5 : Int32).toInt = 5) c21813
      exfalso
      omega
    · have w21815 := cv_eq (rfl : soz21811.toInt = soz21811.toInt) (by decide : (5 : Int32).toInt = 5) c21813
      refine lv_iload_n hx hb dX13_bounded_41 rfl (lv_at hl 1 rfl) ?_
      refine lv_goto (tgt := 49) hx hb dX13_bounded_42 (by decide) ?_
      exact t_iret hQ X hT (⟨(by omega), hfr, ⟨soz21811, spz21811, faz21811, qsoz21811, qspz21811, qfaz21811, (by omega), (by omega), (by omega), hstk, hspt, hkf⟩⟩) (Nat.le_of_ble_eq_true rfl) (Nat.le_of_ble_eq_true rfl) dX13_bounded_49
set_option maxHeartbeats 4000000 in
set_option maxRecDepth 100000 in
theorem km65_X13_readWhole (l : Launch) (G : KG) (tag : Nat → Nat) (L : List Nat) (Fo : Nat → va_E) (ho : okT G ttC tag L Fo) (p0 : Nat) (p1 : Int32) (p2 : Int32) (x0 : Nat) (x1 : Nat) (x2 : Nat) (x3 : Int32) (x4 : Int32) (x5 : Int32) (m0 : p0 ∈ L) (g0 : tag p0 = 46) (h1 : 1 ≤ p1.toInt ∧ p1.toInt ≤ 1) (h2 : 99 ≤ p2.toInt ∧ p2.toInt ≤ 99) (mx0 : x0 ∈ L) (gx0 : tag x0 = 44) (pf0 : fld Fo p0 4 = .ref x0) (mx1 : x1 ∈ L) (gx1 : tag x1 = 35) (pf1 : fld Fo x0 28 = .ref x1) (mx2 : x2 ∈ L) (gx2 : tag x2 = 36) (pf2 : fld Fo x0 29 = .ref x2) (hx3 : 0 ≤ x3.toInt ∧ x3.toInt ≤ 5) (pf3 : fld Fo p0 9 = .int x3) (hx4 : 0 ≤ x4.toInt ∧ x4.toInt ≤ 1000) (pf4 : fld Fo p0 8 = .int x4) (hx5 : 0 ≤ x5.toInt ∧ x5.toInt ≤ 7) (pf5 : fld Fo p0 13 = .int x5) (hkf : KF x3 x5) : TMi l yX13_readWhole cX13_readWhole 4 (some .int) { frames := 2, cells := 0, slots := 0, locals := 44 } G ttC tag L Fo [.ref p0, .int p1, .int p2] (fun r F1 => (1 ≤ r.toInt ∧ r.toInt ≤ 99) ∧ ((∀ b j : Nat, (tag b ≠ 46 ∨ j ≠ 8) → (tag b ≠ 46 ∨ j ≠ 9) → (tag b ≠ 46 ∨ j ≠ 10) → (tag b ≠ 46 ∨ j ≠ 11) → (tag b ≠ 46 ∨ j ≠ 12) → (tag b ≠ 46 ∨ j ≠ 13) → (tag b ≠ 46 ∨ j ≠ 14) → (tag b ≠ 46 ∨ j ≠ 15) → fld F1 b j = fld Fo b j) ∧ (∀ b j : Nat, elm F1 b j = elm Fo b j)) ∧ (∃ so sp fa : Int32, fld F1 p0 9 = .int so ∧ fld F1 p0 8 = .int sp ∧ fld F1 p0 13 = .int fa ∧ (0 ≤ so.toInt ∧ so.toInt ≤ 5) ∧ (0 ≤ sp.toInt ∧ sp.toInt ≤ 1000) ∧ (0 ≤ fa.toInt ∧ fa.toInt ≤ 7) ∧ STK x3 so ∧ SPT x3 x4 so sp ∧ KF so fa)) := by
  refine t_bodyi (y := yX13_readWhole) (cd := cX13_readWhole) (mL := 4) (rt := (some .int)) (rm := { frames := 2, cells := 0, slots := 0, locals := 44 }) (av := [.ref p0, .int p1, .int p2]) (by decide) (Nat.le_of_ble_eq_true rfl) ho ?_
  intro p e s m args below meth c ls A Q hQ X hT hl
  have hx := X.1.1
  have hb := X.1.2.1
  have hl : lv_has ls 4 [(0, .ref p0), (1, .int p1), (2, .int p2)] := hl
  obtain ⟨F, hFo⟩ : ∃ F : Nat → va_E, F = Fo := ⟨_, rfl⟩
  rw [← hFo] at hT pf0 pf1 pf2 pf3 pf4 pf5
  have hfr : (∀ b j : Nat, (tag b ≠ 46 ∨ j ≠ 8) → (tag b ≠ 46 ∨ j ≠ 9) → (tag b ≠ 46 ∨ j ≠ 10) → (tag b ≠ 46 ∨ j ≠ 11) → (tag b ≠ 46 ∨ j ≠ 12) → (tag b ≠ 46 ∨ j ≠ 13) → (tag b ≠ 46 ∨ j ≠ 14) → (tag b ≠ 46 ∨ j ≠ 15) → fld F b j = fld Fo b j) ∧ (∀ b j : Nat, elm F b j = elm Fo b j) := by
    rw [hFo]
    exact ⟨by intros; rfl, by intros; rfl⟩
  have hstk : STK x3 x3 := STK.rf
  have hspt : SPT x3 x4 x3 x4 := SPT.rf
  refine lv_aload_n hx hb dX13_readWhole_0 rfl (lv_at hl 0 rfl) ?_
  refine lv_iload_n hx hb dX13_readWhole_1 rfl (lv_at hl 1 rfl) ?_
  refine lv_iload_n hx hb dX13_readWhole_2 rfl (lv_at hl 2 rfl) ?_
  refine t_cVi (n := 2) (C := RX13) (T := TX13) (N := 37) (As := [.int p1, .int p2]) (rest := []) X hT (km64_X13_bounded l G tag L F hT.2.2.2 p0 p1 p2 x0 x1 x2 x3 x4 x5 m0 g0 (by omega) (by omega) mx0 gx0 pf0 mx1 gx1 pf1 mx2 gx2 pf2 (by omega) pf3 (by omega) pf4 (by omega) pf5 hkf) m0 g0 rfl rfl qw_564 qw_565 qw_566 qw_5 qw_567 ⟨rfl, by decide +kernel, by decide +kernel, by decide +kernel⟩ ⟨Nat.le_of_ble_eq_true rfl, Nat.le_of_ble_eq_true rfl⟩ hl rfl rfl (Nat.le_of_ble_eq_true rfl) dX13_readWhole_3 ⟨Nat.le_of_ble_eq_true rfl, Nat.le_of_ble_eq_true rfl⟩ (fun z21838 F H locs hT hz21838 => ?_)
  obtain ⟨hz21838, yz21838, ⟨soz21838, spz21838, faz21838, qsoz21838, qspz21838, qfaz21838, rsoz21838, rspz21838, rfaz21838, stz21838, ptz21838, hkf⟩⟩ := hz21838
  have pf0 := (yz21838.1 _ 4 (Or.inr (by decide)) (Or.inr (by decide)) (Or.inr (by decide))).trans pf0
  have pf1 := (yz21838.1 _ 28 (Or.inr (by decide)) (Or.inr (by decide)) (Or.inr (by decide))).trans pf1
  have pf2 := (yz21838.1 _ 29 (Or.inr (by decide)) (Or.inr (by decide)) (Or.inr (by decide))).trans pf2
  have pf4 := (yz21838.1 _ 8 (Or.inr (by decide)) (Or.inr (by decide)) (Or.inr (by decide))).trans pf4
  have hfr : (∀ b j : Nat, (tag b ≠ 46 ∨ j ≠ 8) → (tag b ≠ 46 ∨ j ≠ 9) → (tag b ≠ 46 ∨ j ≠ 10) → (tag b ≠ 46 ∨ j ≠ 11) → (tag b ≠ 46 ∨ j ≠ 12) → (tag b ≠ 46 ∨ j ≠ 13) → (tag b ≠ 46 ∨ j ≠ 14) → (tag b ≠ 46 ∨ j ≠ 15) → fld F b j = fld Fo b j) ∧ (∀ b j : Nat, elm F b j = elm Fo b j) := ⟨fun b j n46_8 n46_9 n46_10 n46_11 n46_12 n46_13 n46_14 n46_15 => (yz21838.1 b j n46_9 n46_13 n46_14).trans (hfr.1 b j n46_8 n46_9 n46_10 n46_11 n46_12 n46_13 n46_14 n46_15), fun b j  => (yz21838.2 b j ).trans (hfr.2 b j )⟩
  have hstk := STK.tr hstk stz21838
  have hspt := SPT.tr hspt ptz21838
  refine lv_istore_n (lv' := [(3, .int z21838), (0, .ref p0), (1, .int p1), (2, .int p2)]) hx hb dX13_readWhole_6 rfl hl (by decide) rfl (fun ls hl => ?_)
  refine lv_aload_n hx hb dX13_readWhole_7 rfl (lv_at hl 1 rfl) ?_
  refine t_cVv (n := 0) (C := RX13) (T := TX13) (N := 37) (As := []) (rest := []) X hT (km14_X13_goesOn l G tag L F hT.2.2.2 p0 x0 x1 x2 soz21838 spz21838 faz21838 m0 g0 mx0 gx0 pf0 mx1 gx1 pf1 mx2 gx2 pf2 (by omega) qsoz21838 (by omega) qspz21838 (by omega) qfaz21838 hkf) m0 g0 rfl rfl qw_508 qw_509 qw_510 qw_5 qw_511 ⟨rfl, by decide +kernel, by decide +kernel, by decide +kernel⟩ ⟨Nat.le_of_ble_eq_true rfl, Nat.le_of_ble_eq_true rfl⟩ hl rfl rfl (Nat.le_of_ble_eq_true rfl) dX13_readWhole_8 ⟨Nat.le_of_ble_eq_true rfl, Nat.le_of_ble_eq_true rfl⟩ (fun F H locs hT hz21839 => ?_)
  obtain ⟨yz21839, ⟨soz21839, spz21839, faz21839, qsoz21839, qspz21839, qfaz21839, rsoz21839, rspz21839, rfaz21839, stz21839, ptz21839, hkf⟩⟩ := hz21839
  have pf0 := (yz21839.1 _ 4 (Or.inr (by decide)) (Or.inr (by decide)) (Or.inr (by decide)) (Or.inr (by decide)) (Or.inr (by decide)) (Or.inr (by decide))).trans pf0
  have pf1 := (yz21839.1 _ 28 (Or.inr (by decide)) (Or.inr (by decide)) (Or.inr (by decide)) (Or.inr (by decide)) (Or.inr (by decide)) (Or.inr (by decide))).trans pf1
  have pf2 := (yz21839.1 _ 29 (Or.inr (by decide)) (Or.inr (by decide)) (Or.inr (by decide)) (Or.inr (by decide)) (Or.inr (by decide)) (Or.inr (by decide))).trans pf2
  have qfaz21838 := (yz21839.1 _ 13 (Or.inr (by decide)) (Or.inr (by decide)) (Or.inr (by decide)) (Or.inr (by decide)) (Or.inr (by decide)) (Or.inr (by decide))).trans qfaz21838
  have hfr : (∀ b j : Nat, (tag b ≠ 46 ∨ j ≠ 8) → (tag b ≠ 46 ∨ j ≠ 9) → (tag b ≠ 46 ∨ j ≠ 10) → (tag b ≠ 46 ∨ j ≠ 11) → (tag b ≠ 46 ∨ j ≠ 12) → (tag b ≠ 46 ∨ j ≠ 13) → (tag b ≠ 46 ∨ j ≠ 14) → (tag b ≠ 46 ∨ j ≠ 15) → fld F b j = fld Fo b j) ∧ (∀ b j : Nat, elm F b j = elm Fo b j) := ⟨fun b j n46_8 n46_9 n46_10 n46_11 n46_12 n46_13 n46_14 n46_15 => (yz21839.1 b j n46_8 n46_9 n46_10 n46_11 n46_12 n46_15).trans (hfr.1 b j n46_8 n46_9 n46_10 n46_11 n46_12 n46_13 n46_14 n46_15), fun b j  => (yz21839.2 b j ).trans (hfr.2 b j )⟩
  have hstk := STK.tr hstk stz21839
  have hspt := SPT.tr hspt ptz21839
  refine lv_iload_n hx hb dX13_readWhole_11 rfl (lv_at hl 0 rfl) ?_
  exact t_iret hQ X hT (⟨(by omega), hfr, ⟨soz21839, spz21839, faz21839, qsoz21839, qspz21839, qfaz21839, (by omega), (by omega), (by omega), hstk, hspt, hkf⟩⟩) (Nat.le_of_ble_eq_true rfl) (Nat.le_of_ble_eq_true rfl) dX13_readWhole_12
set_option maxHeartbeats 4000000 in
set_option maxRecDepth 100000 in
theorem km66_X13_readPart (l : Launch) (G : KG) (tag : Nat → Nat) (L : List Nat) (Fo : Nat → va_E) (ho : okT G ttC tag L Fo) (p0 : Nat) (p1 : Nat) (p2 : Int32) (p3 : Int32) (x0 : Nat) (x1 : Nat) (x2 : Nat) (x3 : Int32) (x4 : Int32) (x5 : Int32) (m0 : p0 ∈ L) (g0 : tag p0 = 46) (h1 : p1 < 77) (h2 : 1 ≤ p2.toInt ∧ p2.toInt ≤ 1) (h3 : 99 ≤ p3.toInt ∧ p3.toInt ≤ 99) (mx0 : x0 ∈ L) (gx0 : tag x0 = 44) (pf0 : fld Fo p0 4 = .ref x0) (mx1 : x1 ∈ L) (gx1 : tag x1 = 35) (pf1 : fld Fo x0 28 = .ref x1) (mx2 : x2 ∈ L) (gx2 : tag x2 = 36) (pf2 : fld Fo x0 29 = .ref x2) (hx3 : 0 ≤ x3.toInt ∧ x3.toInt ≤ 5) (pf3 : fld Fo p0 9 = .int x3) (hx4 : 0 ≤ x4.toInt ∧ x4.toInt ≤ 1000) (pf4 : fld Fo p0 8 = .int x4) (hx5 : 0 ≤ x5.toInt ∧ x5.toInt ≤ 7) (pf5 : fld Fo p0 13 = .int x5) (hkf : KF x3 x5) : TMi l yX13_readPart cX13_readPart 4 (some .int) { frames := 7, cells := 0, slots := 0, locals := 150 } G ttC tag L Fo [.ref p0, .ref (G.2 (100 + p1)), .int p2, .int p3] (fun r F1 => (1 ≤ r.toInt ∧ r.toInt ≤ 99) ∧ ((∀ b j : Nat, (tag b ≠ 46 ∨ j ≠ 8) → (tag b ≠ 46 ∨ j ≠ 9) → (tag b ≠ 46 ∨ j ≠ 10) → (tag b ≠ 46 ∨ j ≠ 11) → (tag b ≠ 46 ∨ j ≠ 12) → (tag b ≠ 46 ∨ j ≠ 13) → (tag b ≠ 46 ∨ j ≠ 14) → (tag b ≠ 46 ∨ j ≠ 15) → fld F1 b j = fld Fo b j) ∧ (∀ b j : Nat, elm F1 b j = elm Fo b j)) ∧ (∃ so sp fa : Int32, fld F1 p0 9 = .int so ∧ fld F1 p0 8 = .int sp ∧ fld F1 p0 13 = .int fa ∧ (0 ≤ so.toInt ∧ so.toInt ≤ 5) ∧ (0 ≤ sp.toInt ∧ sp.toInt ≤ 1000) ∧ (0 ≤ fa.toInt ∧ fa.toInt ≤ 7) ∧ STK x3 so ∧ SPT x3 x4 so sp ∧ KF so fa)) := by
  refine t_bodyi (y := yX13_readPart) (cd := cX13_readPart) (mL := 4) (rt := (some .int)) (rm := { frames := 7, cells := 0, slots := 0, locals := 150 }) (av := [.ref p0, .ref (G.2 (100 + p1)), .int p2, .int p3]) (by decide) (Nat.le_of_ble_eq_true rfl) ho ?_
  intro p e s m args below meth c ls A Q hQ X hT hl
  have hx := X.1.1
  have hb := X.1.2.1
  have hl : lv_has ls 4 [(0, .ref p0), (1, .ref (G.2 (100 + p1))), (2, .int p2), (3, .int p3)] := hl
  obtain ⟨F, hFo⟩ : ∃ F : Nat → va_E, F = Fo := ⟨_, rfl⟩
  rw [← hFo] at hT pf0 pf1 pf2 pf3 pf4 pf5
  have hfr : (∀ b j : Nat, (tag b ≠ 46 ∨ j ≠ 8) → (tag b ≠ 46 ∨ j ≠ 9) → (tag b ≠ 46 ∨ j ≠ 10) → (tag b ≠ 46 ∨ j ≠ 11) → (tag b ≠ 46 ∨ j ≠ 12) → (tag b ≠ 46 ∨ j ≠ 13) → (tag b ≠ 46 ∨ j ≠ 14) → (tag b ≠ 46 ∨ j ≠ 15) → fld F b j = fld Fo b j) ∧ (∀ b j : Nat, elm F b j = elm Fo b j) := by
    rw [hFo]
    exact ⟨by intros; rfl, by intros; rfl⟩
  have hstk : STK x3 x3 := STK.rf
  have hspt : SPT x3 x4 x3 x4 := SPT.rf
  refine lv_aload_n hx hb dX13_readPart_0 rfl (lv_at hl 0 rfl) ?_
  refine lv_aload_n hx hb dX13_readPart_1 rfl (lv_at hl 1 rfl) ?_
  refine t_cVv (n := 1) (C := RX13) (T := TX13) (N := 37) (As := [.ref (G.2 (100 + p1))]) (rest := []) X hT (km40_X13_needs l G tag L F hT.2.2.2 p0 p1 x0 x1 x2 x3 x4 x5 m0 g0 h1 mx0 gx0 pf0 mx1 gx1 pf1 mx2 gx2 pf2 (by omega) pf3 (by omega) pf4 (by omega) pf5 hkf) m0 g0 rfl rfl qw_556 qw_557 qw_558 qw_5 qw_559 ⟨rfl, by decide +kernel, by decide +kernel, by decide +kernel⟩ ⟨Nat.le_of_ble_eq_true rfl, Nat.le_of_ble_eq_true rfl⟩ hl rfl rfl (Nat.le_of_ble_eq_true rfl) dX13_readPart_2 ⟨Nat.le_of_ble_eq_true rfl, Nat.le_of_ble_eq_true rfl⟩ (fun F H locs hT hz21861 => ?_)
  obtain ⟨yz21861, ⟨soz21861, spz21861, faz21861, qsoz21861, qspz21861, qfaz21861, rsoz21861, rspz21861, rfaz21861, stz21861, ptz21861, hkf⟩⟩ := hz21861
  have pf0 := (yz21861.1 _ 4 (Or.inr (by decide)) (Or.inr (by decide)) (Or.inr (by decide)) (Or.inr (by decide)) (Or.inr (by decide)) (Or.inr (by decide)) (Or.inr (by decide)) (Or.inr (by decide))).trans pf0
  have pf1 := (yz21861.1 _ 28 (Or.inr (by decide)) (Or.inr (by decide)) (Or.inr (by decide)) (Or.inr (by decide)) (Or.inr (by decide)) (Or.inr (by decide)) (Or.inr (by decide)) (Or.inr (by decide))).trans pf1
  have pf2 := (yz21861.1 _ 29 (Or.inr (by decide)) (Or.inr (by decide)) (Or.inr (by decide)) (Or.inr (by decide)) (Or.inr (by decide)) (Or.inr (by decide)) (Or.inr (by decide)) (Or.inr (by decide))).trans pf2
  have hfr : (∀ b j : Nat, (tag b ≠ 46 ∨ j ≠ 8) → (tag b ≠ 46 ∨ j ≠ 9) → (tag b ≠ 46 ∨ j ≠ 10) → (tag b ≠ 46 ∨ j ≠ 11) → (tag b ≠ 46 ∨ j ≠ 12) → (tag b ≠ 46 ∨ j ≠ 13) → (tag b ≠ 46 ∨ j ≠ 14) → (tag b ≠ 46 ∨ j ≠ 15) → fld F b j = fld Fo b j) ∧ (∀ b j : Nat, elm F b j = elm Fo b j) := ⟨fun b j n46_8 n46_9 n46_10 n46_11 n46_12 n46_13 n46_14 n46_15 => (yz21861.1 b j n46_8 n46_9 n46_10 n46_11 n46_12 n46_13 n46_14 n46_15).trans (hfr.1 b j n46_8 n46_9 n46_10 n46_11 n46_12 n46_13 n46_14 n46_15), fun b j  => (yz21861.2 b j ).trans (hfr.2 b j )⟩
  have hstk := STK.tr hstk stz21861
  have hspt := SPT.tr hspt ptz21861
  refine lv_aload_n hx hb dX13_readPart_5 rfl (lv_at hl 0 rfl) ?_
  refine lv_iload_n hx hb dX13_readPart_6 rfl (lv_at hl 2 rfl) ?_
  refine lv_iload_n hx hb dX13_readPart_7 rfl (lv_at hl 3 rfl) ?_
  refine t_cVi (n := 2) (C := RX13) (T := TX13) (N := 37) (As := [.int p2, .int p3]) (rest := []) X hT (km65_X13_readWhole l G tag L F hT.2.2.2 p0 p2 p3 x0 x1 x2 soz21861 spz21861 faz21861 m0 g0 (by omega) (by omega) mx0 gx0 pf0 mx1 gx1 pf1 mx2 gx2 pf2 (by omega) qsoz21861 (by omega) qspz21861 (by omega) qfaz21861 hkf) m0 g0 rfl rfl qw_560 qw_561 qw_562 qw_5 qw_563 ⟨rfl, by decide +kernel, by decide +kernel, by decide +kernel⟩ ⟨Nat.le_of_ble_eq_true rfl, Nat.le_of_ble_eq_true rfl⟩ hl rfl rfl (Nat.le_of_ble_eq_true rfl) dX13_readPart_8 ⟨Nat.le_of_ble_eq_true rfl, Nat.le_of_ble_eq_true rfl⟩ (fun z21862 F H locs hT hz21862 => ?_)
  obtain ⟨hz21862, yz21862, ⟨soz21862, spz21862, faz21862, qsoz21862, qspz21862, qfaz21862, rsoz21862, rspz21862, rfaz21862, stz21862, ptz21862, hkf⟩⟩ := hz21862
  have pf0 := (yz21862.1 _ 4 (Or.inr (by decide)) (Or.inr (by decide)) (Or.inr (by decide)) (Or.inr (by decide)) (Or.inr (by decide)) (Or.inr (by decide)) (Or.inr (by decide)) (Or.inr (by decide))).trans pf0
  have pf1 := (yz21862.1 _ 28 (Or.inr (by decide)) (Or.inr (by decide)) (Or.inr (by decide)) (Or.inr (by decide)) (Or.inr (by decide)) (Or.inr (by decide)) (Or.inr (by decide)) (Or.inr (by decide))).trans pf1
  have pf2 := (yz21862.1 _ 29 (Or.inr (by decide)) (Or.inr (by decide)) (Or.inr (by decide)) (Or.inr (by decide)) (Or.inr (by decide)) (Or.inr (by decide)) (Or.inr (by decide)) (Or.inr (by decide))).trans pf2
  have hfr : (∀ b j : Nat, (tag b ≠ 46 ∨ j ≠ 8) → (tag b ≠ 46 ∨ j ≠ 9) → (tag b ≠ 46 ∨ j ≠ 10) → (tag b ≠ 46 ∨ j ≠ 11) → (tag b ≠ 46 ∨ j ≠ 12) → (tag b ≠ 46 ∨ j ≠ 13) → (tag b ≠ 46 ∨ j ≠ 14) → (tag b ≠ 46 ∨ j ≠ 15) → fld F b j = fld Fo b j) ∧ (∀ b j : Nat, elm F b j = elm Fo b j) := ⟨fun b j n46_8 n46_9 n46_10 n46_11 n46_12 n46_13 n46_14 n46_15 => (yz21862.1 b j n46_8 n46_9 n46_10 n46_11 n46_12 n46_13 n46_14 n46_15).trans (hfr.1 b j n46_8 n46_9 n46_10 n46_11 n46_12 n46_13 n46_14 n46_15), fun b j  => (yz21862.2 b j ).trans (hfr.2 b j )⟩
  have hstk := STK.tr hstk stz21862
  have hspt := SPT.tr hspt ptz21862
  exact t_iret hQ X hT (⟨(by omega), hfr, ⟨soz21862, spz21862, faz21862, qsoz21862, qspz21862, qfaz21862, (by omega), (by omega), (by omega), hstk, hspt, hkf⟩⟩) (Nat.le_of_ble_eq_true rfl) (Nat.le_of_ble_eq_true rfl) dX13_readPart_11
set_option maxHeartbeats 4000000 in
set_option maxRecDepth 100000 in
theorem km67_X13_names (l : Launch) (G : KG) (tag : Nat → Nat) (L : List Nat) (Fo : Nat → va_E) (ho : okT G ttC tag L Fo) (p0 : Nat) (p1 : Int64) (p2 : Int32) (p3 : Int32) (x0 : Nat) (x1 : Nat) (x2 : Nat) (x3 : Int32) (m0 : p0 ∈ L) (g0 : tag p0 = 46) (h2 : 0 ≤ p2.toInt ∧ p2.toInt ≤ 0) (h3 : 0 ≤ p3.toInt ∧ p3.toInt ≤ 3) (mx0 : x0 ∈ L) (gx0 : tag x0 = 44) (pf0 : fld Fo p0 4 = .ref x0) (mx1 : x1 ∈ L) (gx1 : tag x1 = 35) (pf1 : fld Fo x0 28 = .ref x1) (mx2 : x2 ∈ L) (gx2 : tag x2 = 36) (pf2 : fld Fo x0 29 = .ref x2) (hx3 : 0 ≤ x3.toInt ∧ x3.toInt ≤ 31) (pf3 : fld Fo x0 12 = .int x3) (hrel : MSR Fo x1 x2) : TMv l yX13_names cX13_names 5 { frames := 0, cells := 0, slots := 0, locals := 0 } G ttC tag L Fo [.ref p0, .long p1, .int p2, .int p3] (fun F1 => ((∀ b j : Nat, (tag b ≠ 44 ∨ j ≠ 12) → fld F1 b j = fld Fo b j) ∧ (∀ b j : Nat, tag b ≠ 34 → tag b ≠ 35 → tag b ≠ 36 → elm F1 b j = elm Fo b j)) ∧ (MSR F1 x1 x2) ∧ (∃ z : Int32, fld F1 x0 12 = .int z ∧ z.toInt = x3.toInt + 1)) := by
  refine t_bodyv (y := yX13_names) (cd := cX13_names) (mL := 5) (rm := { frames := 0, cells := 0, slots := 0, locals := 0 }) (av := [.ref p0, .long p1, .int p2, .int p3]) (by decide) (Nat.le_of_ble_eq_true rfl) ho ?_
  intro p e s m args below meth c ls A Q hQ X hT hl
  have hx := X.1.1
  have hb := X.1.2.1
  have hl : lv_has ls 5 [(0, .ref p0), (1, .long p1), (3, .int p2), (4, .int p3)] := hl
  obtain ⟨F, hFo⟩ : ∃ F : Nat → va_E, F = Fo := ⟨_, rfl⟩
  rw [← hFo] at hT pf0 pf1 pf2 pf3 hrel
  have hfr : (∀ b j : Nat, (tag b ≠ 44 ∨ j ≠ 12) → fld F b j = fld Fo b j) ∧ (∀ b j : Nat, tag b ≠ 34 → tag b ≠ 35 → tag b ≠ 36 → elm F b j = elm Fo b j) := by
    rw [hFo]
    exact ⟨by intros; rfl, by intros; rfl⟩
  refine lv_aload_n hx hb dX13_names_0 rfl (lv_at hl 0 rfl) ?_
  refine t_get (C := RX13) (T := TX13) (N := 37) X hT m0 g0 rfl rfl 4 (by decide) qw_477 inlX13 rfl dX13_names_1 (fun v22102 hv22102 ov22102 => ?_)
  obtain rfl : v22102 = .ref x0 := hv22102.symm.trans pf0
  refine t_getN (C := RX12) (T := TX12) (N := 31) X hT mx0 gx0 rfl rfl 27 (by decide) (List.mem_of_getElem? (i := 31) rfl) inlX12 rfl dX13_names_4 (fun v22103 hv22103 ov22103 => ?_)
  obtain ⟨b22104, rfl, mb22104, gb22104⟩ := okV_r ov22103
  have gb22104 : tag b22104 = 34 := tg_of gb22104
  refine lv_aload_n hx hb dX13_names_7 rfl (lv_at hl 0 rfl) ?_
  refine t_get (C := RX13) (T := TX13) (N := 37) X hT m0 g0 rfl rfl 4 (by decide) qw_477 inlX13 rfl dX13_names_8 (fun v22105 hv22105 ov22105 => ?_)
  obtain rfl : v22105 = .ref x0 := hv22105.symm.trans pf0
  refine t_getN (C := RX12) (T := TX12) (N := 31) X hT mx0 gx0 rfl rfl 12 (by decide) (List.mem_of_getElem? (i := 16) rfl) inlX12 rfl dX13_names_11 (fun v22106 hv22106 ov22106 => ?_)
  obtain rfl : v22106 = .int x3 := hv22106.symm.trans pf3
  refine lv_lload_n hx hb dX13_names_14 rfl (lv_at hl 1 rfl) ?_
  refine t_lst X hT mb22104 gb22104 rfl (by omega) dX13_names_15 (fun F H locs hT h1v22107 h2v22107 => ?_)
  have pf0 := (h2v22107 _ _).trans pf0
  have pf1 := (h2v22107 _ _).trans pf1
  have pf2 := (h2v22107 _ _).trans pf2
  have pf3 := (h2v22107 _ _).trans pf3
  have hv22103 := (h2v22107 _ _).trans hv22103
  have hfr : (∀ b j : Nat, (tag b ≠ 44 ∨ j ≠ 12) → fld F b j = fld Fo b j) ∧ (∀ b j : Nat, tag b ≠ 34 → tag b ≠ 35 → tag b ≠ 36 → elm F b j = elm Fo b j) := ⟨fun b j n44_12 => (h2v22107 b j).trans (hfr.1 b j n44_12), fun b j a34 a35 a36 => (h1v22107 b j).trans (hfr.2 b j a34 a35 a36)⟩
  have hrel := msr_of (fun j => h1v22107 _ j) (fun j => h1v22107 _ j) hrel
  refine lv_aload_n hx hb dX13_names_16 rfl (lv_at hl 0 rfl) ?_
  refine t_get (C := RX13) (T := TX13) (N := 37) X hT m0 g0 rfl rfl 4 (by decide) qw_477 inlX13 rfl dX13_names_17 (fun v22108 hv22108 ov22108 => ?_)
  obtain rfl : v22108 = .ref x0 := hv22108.symm.trans pf0
  refine t_getN (C := RX12) (T := TX12) (N := 31) X hT mx0 gx0 rfl rfl 28 (by decide) (List.mem_of_getElem? (i := 32) rfl) inlX12 rfl dX13_names_20 (fun v22109 hv22109 ov22109 => ?_)
  obtain rfl : v22109 = .ref x1 := hv22109.symm.trans pf1
  refine lv_aload_n hx hb dX13_names_23 rfl (lv_at hl 0 rfl) ?_
  refine t_get (C := RX13) (T := TX13) (N := 37) X hT m0 g0 rfl rfl 4 (by decide) qw_477 inlX13 rfl dX13_names_24 (fun v22110 hv22110 ov22110 => ?_)
  obtain rfl : v22110 = .ref x0 := hv22110.symm.trans pf0
  refine t_getN (C := RX12) (T := TX12) (N := 31) X hT mx0 gx0 rfl rfl 12 (by decide) (List.mem_of_getElem? (i := 16) rfl) inlX12 rfl dX13_names_27 (fun v22111 hv22111 ov22111 => ?_)
  obtain rfl : v22111 = .int x3 := hv22111.symm.trans pf3
  refine lv_iload_n hx hb dX13_names_30 rfl (lv_at hl 2 rfl) ?_
  refine t_ist X hT mx1 gx1 rfl (by omega) (show (-2147483648) ≤ (p2 : Int32).toInt ∧ (p2 : Int32).toInt ≤ 2147483647 from (rg_all _)) dX13_names_31 (fun F H locs hT v22112 h1v22112 h2v22112 => ?_)
  have pf0 := (h2v22112 _ _).trans pf0
  have pf1 := (h2v22112 _ _).trans pf1
  have pf2 := (h2v22112 _ _).trans pf2
  have pf3 := (h2v22112 _ _).trans pf3
  have hv22103 := (h2v22112 _ _).trans hv22103
  have hfr : (∀ b j : Nat, (tag b ≠ 44 ∨ j ≠ 12) → fld F b j = fld Fo b j) ∧ (∀ b j : Nat, tag b ≠ 34 → tag b ≠ 35 → tag b ≠ 36 → elm F b j = elm Fo b j) := ⟨fun b j n44_12 => (h2v22112 b j).trans (hfr.1 b j n44_12), fun b j a34 a35 a36 => (h1v22112 b j (Or.inl (at_ne gx1 a35))).trans (hfr.2 b j a34 a35 a36)⟩
  have hrel := msr_s hrel h1v22112 (tne gx2 gx1 (by decide))
  refine lv_aload_n hx hb dX13_names_32 rfl (lv_at hl 0 rfl) ?_
  refine t_get (C := RX13) (T := TX13) (N := 37) X hT m0 g0 rfl rfl 4 (by decide) qw_477 inlX13 rfl dX13_names_33 (fun v22113 hv22113 ov22113 => ?_)
  obtain rfl : v22113 = .ref x0 := hv22113.symm.trans pf0
  refine t_getN (C := RX12) (T := TX12) (N := 31) X hT mx0 gx0 rfl rfl 29 (by decide) (List.mem_of_getElem? (i := 33) rfl) inlX12 rfl dX13_names_36 (fun v22114 hv22114 ov22114 => ?_)
  obtain rfl : v22114 = .ref x2 := hv22114.symm.trans pf2
  refine lv_aload_n hx hb dX13_names_39 rfl (lv_at hl 0 rfl) ?_
  refine t_get (C := RX13) (T := TX13) (N := 37) X hT m0 g0 rfl rfl 4 (by decide) qw_477 inlX13 rfl dX13_names_40 (fun v22115 hv22115 ov22115 => ?_)
  obtain rfl : v22115 = .ref x0 := hv22115.symm.trans pf0
  refine t_getN (C := RX12) (T := TX12) (N := 31) X hT mx0 gx0 rfl rfl 12 (by decide) (List.mem_of_getElem? (i := 16) rfl) inlX12 rfl dX13_names_43 (fun v22116 hv22116 ov22116 => ?_)
  obtain rfl : v22116 = .int x3 := hv22116.symm.trans pf3
  refine lv_iload hx hb dX13_names_46 (lv_at hl 3 rfl) ?_
  refine t_ist X hT mx2 gx2 rfl (by omega) (show (-2147483648) ≤ (p3 : Int32).toInt ∧ (p3 : Int32).toInt ≤ 2147483647 from (rg_all _)) dX13_names_48 (fun F H locs hT v22117 h1v22117 h2v22117 => ?_)
  have pf0 := (h2v22117 _ _).trans pf0
  have pf1 := (h2v22117 _ _).trans pf1
  have pf2 := (h2v22117 _ _).trans pf2
  have pf3 := (h2v22117 _ _).trans pf3
  have hv22103 := (h2v22117 _ _).trans hv22103
  have v22112 := (h1v22117 _ _ (Or.inl (tne gx1 gx2 (by decide)))).trans v22112
  have hfr : (∀ b j : Nat, (tag b ≠ 44 ∨ j ≠ 12) → fld F b j = fld Fo b j) ∧ (∀ b j : Nat, tag b ≠ 34 → tag b ≠ 35 → tag b ≠ 36 → elm F b j = elm Fo b j) := ⟨fun b j n44_12 => (h2v22117 b j).trans (hfr.1 b j n44_12), fun b j a34 a35 a36 => (h1v22117 b j (Or.inl (at_ne gx2 a36))).trans (hfr.2 b j a34 a35 a36)⟩
  have hrel := msr_n hrel v22112 h1v22117 v22117 (tne gx1 gx2 (by decide)) ⟨fun h9 => ⟨(by omega), (by omega)⟩, fun h9 => (by have h8 := congrArg Int32.toInt h9; rw [show ((1 : Int32).toInt = 1) from by decide] at h8; omega), fun h9 => (by have h8 := congrArg Int32.toInt h9; rw [show ((3 : Int32).toInt = 3) from by decide] at h8; omega)⟩
  refine lv_aload_n hx hb dX13_names_49 rfl (lv_at hl 0 rfl) ?_
  refine t_get (C := RX13) (T := TX13) (N := 37) X hT m0 g0 rfl rfl 4 (by decide) qw_477 inlX13 rfl dX13_names_50 (fun v22118 hv22118 ov22118 => ?_)
  obtain rfl : v22118 = .ref x0 := hv22118.symm.trans pf0
  refine lv_dup hx hb dX13_names_53 rfl ?_
  refine t_getN (C := RX12) (T := TX12) (N := 31) X hT mx0 gx0 rfl rfl 12 (by decide) (List.mem_of_getElem? (i := 16) rfl) inlX12 rfl dX13_names_54 (fun v22119 hv22119 ov22119 => ?_)
  obtain rfl : v22119 = .int x3 := hv22119.symm.trans pf3
  refine lv_iconst (v := 1) hx hb dX13_names_57 (by decide) ?_
  refine lv_iadd hx hb dX13_names_58 ?_
  refine lv_topi (fun z22120 ez22120 => ?_)
  have hz22120 : z22120.toInt = x3.toInt + 1 := ar_add ez22120 (rfl : x3.toInt = x3.toInt) (by decide : (1 : Int32).toInt = 1) (by omega) (by omega)
  have rz22120 : 1 ≤ z22120.toInt ∧ z22120.toInt ≤ 32 := by omega
  refine t_putN (C := RX12) (T := TX12) (N := 31) (v := .int z22120) X hT mx0 gx0 rfl tyX12 tyX12_ok nmX12 rfl 12 (by decide) (List.mem_of_getElem? (i := 16) rfl) inlX12 rfl (by first | rfl | decide) (by first | rfl | decide) rfl (⟨_, rfl, (show 0 ≤ (z22120 : Int32).toInt from (by omega)), (show (z22120 : Int32).toInt ≤ 32 from (by omega))⟩) dX13_names_59 (fun F H locs hT v22121 h1v22121 h2v22121 => ?_)
  have pf0 := (h1v22121 _ _ (Or.inr (by decide))).trans pf0
  have pf1 := (h1v22121 _ _ (Or.inr (by decide))).trans pf1
  have pf2 := (h1v22121 _ _ (Or.inr (by decide))).trans pf2
  have hv22103 := (h1v22121 _ _ (Or.inr (by decide))).trans hv22103
  have v22112 := (h2v22121 _ _).trans v22112
  have v22117 := (h2v22121 _ _).trans v22117
  have hfr : (∀ b j : Nat, (tag b ≠ 44 ∨ j ≠ 12) → fld F b j = fld Fo b j) ∧ (∀ b j : Nat, tag b ≠ 34 → tag b ≠ 35 → tag b ≠ 36 → elm F b j = elm Fo b j) := ⟨fun b j n44_12 => (h1v22121 b j (fr_ne gx0 n44_12)).trans (hfr.1 b j n44_12), fun b j a34 a35 a36 => (h2v22121 b j).trans (hfr.2 b j a34 a35 a36)⟩
  have hrel := msr_of (fun j => h2v22121 _ j) (fun j => h2v22121 _ j) hrel
  exact t_vret hQ X hT ⟨hfr, hrel, ⟨_, v22121, by omega⟩⟩ (Nat.le_of_ble_eq_true rfl) (Nat.le_of_ble_eq_true rfl) dX13_names_62
