set_option maxHeartbeats 4000000 in
set_option maxRecDepth 100000 in
theorem km19_X13_within (l : Launch) (G : KG) (tag : Nat → Nat) (L : List Nat) (F : Nat → va_E) (ho : okT G ttC tag L F) (p0 : Int32) (p1 : Int32) (p2 : Int32)  : TMi l yX13_within cX13_within 3 (some .boolean) { frames := 0, cells := 0, slots := 0, locals := 0 } G ttC tag L F [.int p0, .int p1, .int p2] (fun r F1 => F1 = F ∧ (0 ≤ r.toInt ∧ r.toInt ≤ 1) ∧ (r.toInt ≠ 0 → p1.toInt ≤ p0.toInt ∧ p0.toInt ≤ p2.toInt)) := by
  refine t_bodyi (y := yX13_within) (cd := cX13_within) (mL := 3) (rt := (some .boolean)) (rm := { frames := 0, cells := 0, slots := 0, locals := 0 }) (av := [.int p0, .int p1, .int p2]) (by decide) (Nat.le_of_ble_eq_true rfl) ho ?_
  intro p e s m args below meth c ls A Q hQ X hT hl
  have hx := X.1.1
  have hb := X.1.2.1
  have hl : lv_has ls 3 [(0, .int p0), (1, .int p1), (2, .int p2)] := hl
  have rp0 := rg_all p0
  have rp1 := rg_all p1
  have rp2 := rg_all p2
  refine lv_iload_n hx hb dX13_within_0 rfl (lv_at hl 0 rfl) ?_
  refine lv_iload_n hx hb dX13_within_1 rfl (lv_at hl 1 rfl) ?_
  refine lv_icmp_lt (tgt := 14) hx hb dX13_within_2 (by decide) (fun c9104 => ?_) (fun c9104 => ?_)
  · have w9105 := cv_lt (rfl : p0.toInt = p0.toInt) (rfl : p1.toInt = p1.toInt) c9104
    refine lv_iconst (v := 0) hx hb dX13_within_14 (by decide) ?_
    have k9106 : (0 : Int32).toInt = 0 := by decide
    exact t_zret hQ X hT (by decide) (⟨rfl, (by decide), (by omega)⟩) (Nat.le_of_ble_eq_true rfl) (Nat.le_of_ble_eq_true rfl) dX13_within_15
  · have w9107 := cv_nlt (rfl : p0.toInt = p0.toInt) (rfl : p1.toInt = p1.toInt) c9104
    refine lv_iload_n hx hb dX13_within_5 rfl (lv_at hl 0 rfl) ?_
    refine lv_iload_n hx hb dX13_within_6 rfl (lv_at hl 2 rfl) ?_
    refine lv_icmp_gt (tgt := 14) hx hb dX13_within_7 (by decide) (fun c9108 => ?_) (fun c9108 => ?_)
    · have w9109 := cv_lt (rfl : p2.toInt = p2.toInt) (rfl : p0.toInt = p0.toInt) c9108
      refine lv_iconst (v := 0) hx hb dX13_within_14 (by decide) ?_
      have k9110 : (0 : Int32).toInt = 0 := by decide
      exact t_zret hQ X hT (by decide) (⟨rfl, (by decide), (by omega)⟩) (Nat.le_of_ble_eq_true rfl) (Nat.le_of_ble_eq_true rfl) dX13_within_15
    · have w9111 := cv_nlt (rfl : p2.toInt = p2.toInt) (rfl : p0.toInt = p0.toInt) c9108
      refine lv_iconst (v := 1) hx hb dX13_within_10 (by decide) ?_
      refine lv_goto (tgt := 15) hx hb dX13_within_11 (by decide) ?_
      have k9112 : (1 : Int32).toInt = 1 := by decide
      exact t_zret hQ X hT (by decide) (⟨rfl, (by decide), (by omega)⟩) (Nat.le_of_ble_eq_true rfl) (Nat.le_of_ble_eq_true rfl) dX13_within_15
set_option maxHeartbeats 4000000 in
set_option maxRecDepth 100000 in
theorem km20_X13_bounded (l : Launch) (G : KG) (tag : Nat → Nat) (L : List Nat) (Fo : Nat → va_E) (ho : okT G ttC tag L Fo) (p0 : Nat) (p1 : Int32) (p2 : Int32) (x0 : Nat) (x1 : Nat) (x2 : Nat) (x3 : Int32) (x4 : Int32) (x5 : Int32) (m0 : p0 ∈ L) (g0 : tag p0 = 46) (h1 : 0 ≤ p1.toInt ∧ p1.toInt ≤ 0) (h2 : 999 ≤ p2.toInt ∧ p2.toInt ≤ 999) (mx0 : x0 ∈ L) (gx0 : tag x0 = 44) (pf0 : fld Fo p0 4 = .ref x0) (mx1 : x1 ∈ L) (gx1 : tag x1 = 35) (pf1 : fld Fo x0 28 = .ref x1) (mx2 : x2 ∈ L) (gx2 : tag x2 = 36) (pf2 : fld Fo x0 29 = .ref x2) (hx3 : 0 ≤ x3.toInt ∧ x3.toInt ≤ 5) (pf3 : fld Fo p0 9 = .int x3) (hx4 : 0 ≤ x4.toInt ∧ x4.toInt ≤ 1000) (pf4 : fld Fo p0 8 = .int x4) (hx5 : 0 ≤ x5.toInt ∧ x5.toInt ≤ 7) (pf5 : fld Fo p0 13 = .int x5) (hkf : KF x3 x5) : TMi l yX13_bounded cX13_bounded 3 (some .int) { frames := 1, cells := 0, slots := 0, locals := 22 } G ttC tag L Fo [.ref p0, .int p1, .int p2] (fun r F1 => (0 ≤ r.toInt ∧ r.toInt ≤ 999) ∧ ((∀ b j : Nat, (tag b ≠ 46 ∨ j ≠ 9) → (tag b ≠ 46 ∨ j ≠ 13) → (tag b ≠ 46 ∨ j ≠ 14) → fld F1 b j = fld Fo b j) ∧ (∀ b j : Nat, elm F1 b j = elm Fo b j)) ∧ (∃ so sp fa : Int32, fld F1 p0 9 = .int so ∧ fld F1 p0 8 = .int sp ∧ fld F1 p0 13 = .int fa ∧ (0 ≤ so.toInt ∧ so.toInt ≤ 5) ∧ (0 ≤ sp.toInt ∧ sp.toInt ≤ 1000) ∧ (0 ≤ fa.toInt ∧ fa.toInt ≤ 7) ∧ STK x3 so ∧ SPT x3 x4 so sp ∧ KF so fa)) := by
  refine t_bodyi (y := yX13_bounded) (cd := cX13_bounded) (mL := 3) (rt := (some .int)) (rm := { frames := 1, cells := 0, slots := 0, locals := 22 }) (av := [.ref p0, .int p1, .int p2]) (by decide) (Nat.le_of_ble_eq_true rfl) ho ?_
  intro p e s m args below meth c ls A Q hQ X hT hl
  have hx := X.1.1
  have hb := X.1.2.1
  have hl : lv_has ls 3 [(0, .ref p0), (1, .int p1), (2, .int p2)] := hl
  obtain ⟨F, hFo⟩ : ∃ F : Nat → va_E, F = Fo := ⟨_, rfl⟩
  rw [← hFo] at hT pf0 pf1 pf2 pf3 pf4 pf5
  have hfr : (∀ b j : Nat, (tag b ≠ 46 ∨ j ≠ 9) → (tag b ≠ 46 ∨ j ≠ 13) → (tag b ≠ 46 ∨ j ≠ 14) → fld F b j = fld Fo b j) ∧ (∀ b j : Nat, elm F b j = elm Fo b j) := by
    rw [hFo]
    exact ⟨by intros; rfl, by intros; rfl⟩
  have hstk : STK x3 x3 := STK.rf
  have hspt : SPT x3 x4 x3 x4 := SPT.rf
  refine lv_aload_n hx hb dX13_bounded_0 rfl (lv_at hl 0 rfl) ?_
  refine t_get (C := RX13) (T := TX13) (N := 37) X hT m0 g0 rfl rfl 9 (by decide) qw_478 inlX13 rfl dX13_bounded_1 (fun v9394 hv9394 ov9394 => ?_)
  obtain rfl : v9394 = .int x3 := hv9394.symm.trans pf3
  refine lv_iconst (v := 3) hx hb dX13_bounded_4 (by decide) ?_
  refine lv_icmp_eq (tgt := 16) hx hb dX13_bounded_5 (by decide) (fun c9395 => ?_) (fun c9395 => ?_)
  · have w9396 := cv_eq (rfl : x3.toInt = x3.toInt) (by decide : (3 : Int32).toInt = 3) c9395
    refine lv_aload_n hx hb dX13_bounded_16 rfl (lv_at hl 0 rfl) ?_
    refine t_get (C := RX13) (T := TX13) (N := 37) X hT m0 g0 rfl rfl 12 (by decide) qw_516 inlX13 rfl dX13_bounded_17 (fun v9397 hv9397 ov9397 => ?_)
    obtain ⟨z9398, rfl, rz9398⟩ := okV_i ov9397
    refine lv_iload_n hx hb dX13_bounded_20 rfl (lv_at hl 1 rfl) ?_
    refine lv_iload_n hx hb dX13_bounded_21 rfl (lv_at hl 2 rfl) ?_
    refine t_cSi (n := 3) (As := [.int z9398, .int p1, .int p2]) (rest := []) X hT (km19_X13_within l G tag L F hT.2.2.2 z9398 p1 p2 ) qw_568 qw_569 qw_5 qw_570 ⟨by decide +kernel, by decide +kernel, by decide +kernel⟩ ⟨Nat.le_of_ble_eq_true rfl, Nat.le_of_ble_eq_true rfl⟩ hl rfl rfl (Nat.le_of_ble_eq_true rfl) dX13_bounded_22 ⟨Nat.le_of_ble_eq_true rfl, Nat.le_of_ble_eq_true rfl⟩ (fun z9399 F9 H locs hT hz9399 => ?_)
    obtain ⟨fz9399, hz9399, xz9399_0⟩ := hz9399
    rw [fz9399] at hT
    refine lv_if_ne (tgt := 33) hx hb dX13_bounded_25 (by decide) (fun c9400 => ?_) (fun c9400 => ?_)
    · have w9401 := cv_ne (rfl : z9399.toInt = z9399.toInt) (by decide : (0 : Int32).toInt = 0) c9400
      have w9402 := xz9399_0 (by omega)
      refine lv_aload_n hx hb dX13_bounded_33 rfl (lv_at hl 0 rfl) ?_
      refine t_get (C := RX13) (T := TX13) (N := 37) X hT m0 g0 rfl rfl 9 (by decide) qw_478 inlX13 rfl dX13_bounded_34 (fun v9403 hv9403 ov9403 => ?_)
      obtain rfl : v9403 = .int x3 := hv9403.symm.trans pf3
      refine lv_iconst (v := 5) hx hb dX13_bounded_37 (by decide) ?_
      refine lv_icmp_ne (tgt := 45) hx hb dX13_bounded_38 (by decide) (fun c9404 => ?_) (fun c9404 => ?_)
      · have w9405 := cv_ne (rfl : x3.toInt = x3.toInt) (by decide : (5 : Int32).toInt = 5) c9404
        refine lv_aload_n hx hb dX13_bounded_45 rfl (lv_at hl 0 rfl) ?_
        refine t_get (C := RX13) (T := TX13) (N := 37) X hT m0 g0 rfl rfl 12 (by decide) qw_516 inlX13 rfl dX13_bounded_46 (fun v9406 hv9406 ov9406 => ?_)
        obtain rfl : v9406 = .int z9398 := hv9406.symm.trans hv9397
        exact t_iret hQ X hT (⟨(by omega), hfr, ⟨x3, x4, x5, pf3, pf4, pf5, (by omega), (by omega), (by omega), hstk, hspt, hkf⟩⟩) (Nat.le_of_ble_eq_true rfl) (Nat.le_of_ble_eq_true rfl) dX13_bounded_49
      · have w9407 := cv_eq (rfl : x3.toInt = x3.toInt) (by decide : (5 : Int32).toInt = 5) c9404
        exfalso
        omega
    · have w9408 := cv_eq (rfl : z9399.toInt = z9399.toInt) (by decide : (0 : Int32).toInt = 0) c9400
      refine lv_aload_n hx hb dX13_bounded_28 rfl (lv_at hl 0 rfl) ?_
      refine lv_iconst (v := 4) hx hb dX13_bounded_29 (by decide) ?_
      refine t_cVv (n := 1) (C := RX13) (T := TX13) (N := 37) (As := [.int 4]) (rest := []) X hT (km10_X13_flaw l G tag L F hT.2.2.2 p0 4 x0 x1 x2 x3 x4 x5 m0 g0 (by decide) mx0 gx0 pf0 mx1 gx1 pf1 mx2 gx2 pf2 (by omega) pf3 (by omega) pf4 (by omega) pf5 hkf) m0 g0 rfl rfl qw_548 qw_549 qw_550 qw_5 qw_551 ⟨rfl, by decide +kernel, by decide +kernel, by decide +kernel⟩ ⟨Nat.le_of_ble_eq_true rfl, Nat.le_of_ble_eq_true rfl⟩ hl rfl rfl (Nat.le_of_ble_eq_true rfl) dX13_bounded_30 ⟨Nat.le_of_ble_eq_true rfl, Nat.le_of_ble_eq_true rfl⟩ (fun F H locs hT hz9409 => ?_)
      obtain ⟨yz9409, ⟨soz9409, spz9409, faz9409, qsoz9409, qspz9409, qfaz9409, rsoz9409, rspz9409, rfaz9409, stz9409, ptz9409, hkf, pxz9409_0⟩⟩ := hz9409
      have pf0 := (yz9409.1 _ 4 (Or.inr (by decide)) (Or.inr (by decide)) (Or.inr (by decide))).trans pf0
      have pf1 := (yz9409.1 _ 28 (Or.inr (by decide)) (Or.inr (by decide)) (Or.inr (by decide))).trans pf1
      have pf2 := (yz9409.1 _ 29 (Or.inr (by decide)) (Or.inr (by decide)) (Or.inr (by decide))).trans pf2
      have pf4 := (yz9409.1 _ 8 (Or.inr (by decide)) (Or.inr (by decide)) (Or.inr (by decide))).trans pf4
      have hv9397 := (yz9409.1 _ 12 (Or.inr (by decide)) (Or.inr (by decide)) (Or.inr (by decide))).trans hv9397
      have hfr : (∀ b j : Nat, (tag b ≠ 46 ∨ j ≠ 9) → (tag b ≠ 46 ∨ j ≠ 13) → (tag b ≠ 46 ∨ j ≠ 14) → fld F b j = fld Fo b j) ∧ (∀ b j : Nat, elm F b j = elm Fo b j) := ⟨fun b j n46_9 n46_13 n46_14 => (yz9409.1 b j n46_9 n46_13 n46_14).trans (hfr.1 b j n46_9 n46_13 n46_14), fun b j  => (yz9409.2 b j ).trans (hfr.2 b j )⟩
      have hstk := STK.tr hstk stz9409
      have hspt := SPT.tr hspt ptz9409
      refine lv_aload_n hx hb dX13_bounded_33 rfl (lv_at hl 0 rfl) ?_
      refine t_get (C := RX13) (T := TX13) (N := 37) X hT m0 g0 rfl rfl 9 (by decide) qw_478 inlX13 rfl dX13_bounded_34 (fun v9410 hv9410 ov9410 => ?_)
      obtain rfl : v9410 = .int soz9409 := hv9410.symm.trans qsoz9409
      refine lv_iconst (v := 5) hx hb dX13_bounded_37 (by decide) ?_
      refine lv_icmp_ne (tgt := 45) hx hb dX13_bounded_38 (by decide) (fun c9411 => ?_) (fun c9411 => ?_)
      · have w9412 := cv_ne (rfl : soz9409.toInt = soz9409.toInt) (by decide : (5 : Int32).toInt = 5) c9411
        exfalso
        omega
      · have w9413 := cv_eq (rfl : soz9409.toInt = soz9409.toInt) (by decide : (5 : Int32).toInt = 5) c9411
        refine lv_iload_n hx hb dX13_bounded_41 rfl (lv_at hl 1 rfl) ?_
        refine lv_goto (tgt := 49) hx hb dX13_bounded_42 (by decide) ?_
        exact t_iret hQ X hT (⟨(by omega), hfr, ⟨soz9409, spz9409, faz9409, qsoz9409, qspz9409, qfaz9409, (by omega), (by omega), (by omega), hstk, hspt, hkf⟩⟩) (Nat.le_of_ble_eq_true rfl) (Nat.le_of_ble_eq_true rfl) dX13_bounded_49
  · have w9414 := cv_ne (rfl : x3.toInt = x3.toInt) (by decide : (3 : Int32).toInt = 3) c9395
    refine lv_aload_n hx hb dX13_bounded_8 rfl (lv_at hl 0 rfl) ?_
    refine lv_iconst (v := 1) hx hb dX13_bounded_9 (by decide) ?_
    refine t_cVv (n := 1) (C := RX13) (T := TX13) (N := 37) (As := [.int 1]) (rest := []) X hT (km10_X13_flaw l G tag L F hT.2.2.2 p0 1 x0 x1 x2 x3 x4 x5 m0 g0 (by decide) mx0 gx0 pf0 mx1 gx1 pf1 mx2 gx2 pf2 (by omega) pf3 (by omega) pf4 (by omega) pf5 hkf) m0 g0 rfl rfl qw_548 qw_549 qw_550 qw_5 qw_551 ⟨rfl, by decide +kernel, by decide +kernel, by decide +kernel⟩ ⟨Nat.le_of_ble_eq_true rfl, Nat.le_of_ble_eq_true rfl⟩ hl rfl rfl (Nat.le_of_ble_eq_true rfl) dX13_bounded_10 ⟨Nat.le_of_ble_eq_true rfl, Nat.le_of_ble_eq_true rfl⟩ (fun F H locs hT hz9415 => ?_)
    obtain ⟨yz9415, ⟨soz9415, spz9415, faz9415, qsoz9415, qspz9415, qfaz9415, rsoz9415, rspz9415, rfaz9415, stz9415, ptz9415, hkf, pxz9415_0⟩⟩ := hz9415
    have pf0 := (yz9415.1 _ 4 (Or.inr (by decide)) (Or.inr (by decide)) (Or.inr (by decide))).trans pf0
    have pf1 := (yz9415.1 _ 28 (Or.inr (by decide)) (Or.inr (by decide)) (Or.inr (by decide))).trans pf1
    have pf2 := (yz9415.1 _ 29 (Or.inr (by decide)) (Or.inr (by decide)) (Or.inr (by decide))).trans pf2
    have pf4 := (yz9415.1 _ 8 (Or.inr (by decide)) (Or.inr (by decide)) (Or.inr (by decide))).trans pf4
    have hfr : (∀ b j : Nat, (tag b ≠ 46 ∨ j ≠ 9) → (tag b ≠ 46 ∨ j ≠ 13) → (tag b ≠ 46 ∨ j ≠ 14) → fld F b j = fld Fo b j) ∧ (∀ b j : Nat, elm F b j = elm Fo b j) := ⟨fun b j n46_9 n46_13 n46_14 => (yz9415.1 b j n46_9 n46_13 n46_14).trans (hfr.1 b j n46_9 n46_13 n46_14), fun b j  => (yz9415.2 b j ).trans (hfr.2 b j )⟩
    have hstk := STK.tr hstk stz9415
    have hspt := SPT.tr hspt ptz9415
    refine lv_goto (tgt := 33) hx hb dX13_bounded_13 (by decide) ?_
    refine lv_aload_n hx hb dX13_bounded_33 rfl (lv_at hl 0 rfl) ?_
    refine t_get (C := RX13) (T := TX13) (N := 37) X hT m0 g0 rfl rfl 9 (by decide) qw_478 inlX13 rfl dX13_bounded_34 (fun v9416 hv9416 ov9416 => ?_)
    obtain rfl : v9416 = .int soz9415 := hv9416.symm.trans qsoz9415
    refine lv_iconst (v := 5) hx hb dX13_bounded_37 (by decide) ?_
    refine lv_icmp_ne (tgt := 45) hx hb dX13_bounded_38 (by decide) (fun c9417 => ?_) (fun c9417 => ?_)
    · have w9418 := cv_ne (rfl : soz9415.toInt = soz9415.toInt) (by decide : (5 : Int32).toInt = 5) c9417
      exfalso
      omega
    · have w9419 := cv_eq (rfl : soz9415.toInt = soz9415.toInt) (by decide : (5 : Int32).toInt = 5) c9417
      refine lv_iload_n hx hb dX13_bounded_41 rfl (lv_at hl 1 rfl) ?_
      refine lv_goto (tgt := 49) hx hb dX13_bounded_42 (by decide) ?_
      exact t_iret hQ X hT (⟨(by omega), hfr, ⟨soz9415, spz9415, faz9415, qsoz9415, qspz9415, qfaz9415, (by omega), (by omega), (by omega), hstk, hspt, hkf⟩⟩) (Nat.le_of_ble_eq_true rfl) (Nat.le_of_ble_eq_true rfl) dX13_bounded_49
set_option maxHeartbeats 4000000 in
set_option maxRecDepth 100000 in
theorem km21_X13_readWhole (l : Launch) (G : KG) (tag : Nat → Nat) (L : List Nat) (Fo : Nat → va_E) (ho : okT G ttC tag L Fo) (p0 : Nat) (p1 : Int32) (p2 : Int32) (x0 : Nat) (x1 : Nat) (x2 : Nat) (x3 : Int32) (x4 : Int32) (x5 : Int32) (m0 : p0 ∈ L) (g0 : tag p0 = 46) (h1 : 0 ≤ p1.toInt ∧ p1.toInt ≤ 0) (h2 : 999 ≤ p2.toInt ∧ p2.toInt ≤ 999) (mx0 : x0 ∈ L) (gx0 : tag x0 = 44) (pf0 : fld Fo p0 4 = .ref x0) (mx1 : x1 ∈ L) (gx1 : tag x1 = 35) (pf1 : fld Fo x0 28 = .ref x1) (mx2 : x2 ∈ L) (gx2 : tag x2 = 36) (pf2 : fld Fo x0 29 = .ref x2) (hx3 : 0 ≤ x3.toInt ∧ x3.toInt ≤ 5) (pf3 : fld Fo p0 9 = .int x3) (hx4 : 0 ≤ x4.toInt ∧ x4.toInt ≤ 1000) (pf4 : fld Fo p0 8 = .int x4) (hx5 : 0 ≤ x5.toInt ∧ x5.toInt ≤ 7) (pf5 : fld Fo p0 13 = .int x5) (hkf : KF x3 x5) : TMi l yX13_readWhole cX13_readWhole 4 (some .int) { frames := 2, cells := 0, slots := 0, locals := 44 } G ttC tag L Fo [.ref p0, .int p1, .int p2] (fun r F1 => (0 ≤ r.toInt ∧ r.toInt ≤ 999) ∧ ((∀ b j : Nat, (tag b ≠ 46 ∨ j ≠ 8) → (tag b ≠ 46 ∨ j ≠ 9) → (tag b ≠ 46 ∨ j ≠ 10) → (tag b ≠ 46 ∨ j ≠ 11) → (tag b ≠ 46 ∨ j ≠ 12) → (tag b ≠ 46 ∨ j ≠ 13) → (tag b ≠ 46 ∨ j ≠ 14) → (tag b ≠ 46 ∨ j ≠ 15) → fld F1 b j = fld Fo b j) ∧ (∀ b j : Nat, elm F1 b j = elm Fo b j)) ∧ (∃ so sp fa : Int32, fld F1 p0 9 = .int so ∧ fld F1 p0 8 = .int sp ∧ fld F1 p0 13 = .int fa ∧ (0 ≤ so.toInt ∧ so.toInt ≤ 5) ∧ (0 ≤ sp.toInt ∧ sp.toInt ≤ 1000) ∧ (0 ≤ fa.toInt ∧ fa.toInt ≤ 7) ∧ STK x3 so ∧ SPT x3 x4 so sp ∧ KF so fa)) := by
  refine t_bodyi (y := yX13_readWhole) (cd := cX13_readWhole) (mL := 4) (rt := (some .int)) (rm := { frames := 2, cells := 0, slots := 0, locals := 44 }) (av := [.ref p0, .int p1, .int p2]) (by decide) (Nat.le_of_ble_eq_true rfl) ho ?_
  intro p e s m args below meth c ls A Q hQ X hT hl
  have hx := X.1.1
  have hb := X.1.2.1
  have hl : lv_has ls 4 [(0, .ref p0), (1, .int p1), (2, .int p2)] := hl
  obtain ⟨F, hFo⟩ : ∃ F : Nat → va_E, F = Fo := ⟨_, rfl⟩
  rw [← hFo] at hT pf0 pf1 pf2 pf3 pf4 pf5
  have hfr : (∀ b j : Nat, (tag b ≠ 46 ∨ j ≠ 8) → (tag b ≠ 46 ∨ j ≠ 9) → (tag b ≠ 46 ∨ j ≠ 10) → (tag b ≠ 46 ∨ j ≠ 11) → (tag b ≠ 46 ∨ j ≠ 12) → (tag b ≠ 46 ∨ j ≠ 13) → (tag b ≠ 46 ∨ j ≠ 14) → (tag b ≠ 46 ∨ j ≠ 15) → fld F b j = fld Fo b j) ∧ (∀ b j : Nat, elm F b j = elm Fo b j) := by
    rw [hFo]
    exact ⟨by intros; rfl, by intros; rfl⟩
  have hstk : STK x3 x3 := STK.rf
  have hspt : SPT x3 x4 x3 x4 := SPT.rf
  refine lv_aload_n hx hb dX13_readWhole_0 rfl (lv_at hl 0 rfl) ?_
  refine lv_iload_n hx hb dX13_readWhole_1 rfl (lv_at hl 1 rfl) ?_
  refine lv_iload_n hx hb dX13_readWhole_2 rfl (lv_at hl 2 rfl) ?_
  refine t_cVi (n := 2) (C := RX13) (T := TX13) (N := 37) (As := [.int p1, .int p2]) (rest := []) X hT (km20_X13_bounded l G tag L F hT.2.2.2 p0 p1 p2 x0 x1 x2 x3 x4 x5 m0 g0 (by omega) (by omega) mx0 gx0 pf0 mx1 gx1 pf1 mx2 gx2 pf2 (by omega) pf3 (by omega) pf4 (by omega) pf5 hkf) m0 g0 rfl rfl qw_564 qw_565 qw_566 qw_5 qw_567 ⟨rfl, by decide +kernel, by decide +kernel, by decide +kernel⟩ ⟨Nat.le_of_ble_eq_true rfl, Nat.le_of_ble_eq_true rfl⟩ hl rfl rfl (Nat.le_of_ble_eq_true rfl) dX13_readWhole_3 ⟨Nat.le_of_ble_eq_true rfl, Nat.le_of_ble_eq_true rfl⟩ (fun z9442 F H locs hT hz9442 => ?_)
  obtain ⟨hz9442, yz9442, ⟨soz9442, spz9442, faz9442, qsoz9442, qspz9442, qfaz9442, rsoz9442, rspz9442, rfaz9442, stz9442, ptz9442, hkf⟩⟩ := hz9442
  have pf0 := (yz9442.1 _ 4 (Or.inr (by decide)) (Or.inr (by decide)) (Or.inr (by decide))).trans pf0
  have pf1 := (yz9442.1 _ 28 (Or.inr (by decide)) (Or.inr (by decide)) (Or.inr (by decide))).trans pf1
  have pf2 := (yz9442.1 _ 29 (Or.inr (by decide)) (Or.inr (by decide)) (Or.inr (by decide))).trans pf2
  have pf4 := (yz9442.1 _ 8 (Or.inr (by decide)) (Or.inr (by decide)) (Or.inr (by decide))).trans pf4
  have hfr : (∀ b j : Nat, (tag b ≠ 46 ∨ j ≠ 8) → (tag b ≠ 46 ∨ j ≠ 9) → (tag b ≠ 46 ∨ j ≠ 10) → (tag b ≠ 46 ∨ j ≠ 11) → (tag b ≠ 46 ∨ j ≠ 12) → (tag b ≠ 46 ∨ j ≠ 13) → (tag b ≠ 46 ∨ j ≠ 14) → (tag b ≠ 46 ∨ j ≠ 15) → fld F b j = fld Fo b j) ∧ (∀ b j : Nat, elm F b j = elm Fo b j) := ⟨fun b j n46_8 n46_9 n46_10 n46_11 n46_12 n46_13 n46_14 n46_15 => (yz9442.1 b j n46_9 n46_13 n46_14).trans (hfr.1 b j n46_8 n46_9 n46_10 n46_11 n46_12 n46_13 n46_14 n46_15), fun b j  => (yz9442.2 b j ).trans (hfr.2 b j )⟩
  have hstk := STK.tr hstk stz9442
  have hspt := SPT.tr hspt ptz9442
  refine lv_istore_n (lv' := [(3, .int z9442), (0, .ref p0), (1, .int p1), (2, .int p2)]) hx hb dX13_readWhole_6 rfl hl (by decide) rfl (fun ls hl => ?_)
  refine lv_aload_n hx hb dX13_readWhole_7 rfl (lv_at hl 1 rfl) ?_
  refine t_cVv (n := 0) (C := RX13) (T := TX13) (N := 37) (As := []) (rest := []) X hT (km14_X13_goesOn l G tag L F hT.2.2.2 p0 x0 x1 x2 soz9442 spz9442 faz9442 m0 g0 mx0 gx0 pf0 mx1 gx1 pf1 mx2 gx2 pf2 (by omega) qsoz9442 (by omega) qspz9442 (by omega) qfaz9442 hkf) m0 g0 rfl rfl qw_508 qw_509 qw_510 qw_5 qw_511 ⟨rfl, by decide +kernel, by decide +kernel, by decide +kernel⟩ ⟨Nat.le_of_ble_eq_true rfl, Nat.le_of_ble_eq_true rfl⟩ hl rfl rfl (Nat.le_of_ble_eq_true rfl) dX13_readWhole_8 ⟨Nat.le_of_ble_eq_true rfl, Nat.le_of_ble_eq_true rfl⟩ (fun F H locs hT hz9443 => ?_)
  obtain ⟨yz9443, ⟨soz9443, spz9443, faz9443, qsoz9443, qspz9443, qfaz9443, rsoz9443, rspz9443, rfaz9443, stz9443, ptz9443, hkf⟩⟩ := hz9443
  have pf0 := (yz9443.1 _ 4 (Or.inr (by decide)) (Or.inr (by decide)) (Or.inr (by decide)) (Or.inr (by decide)) (Or.inr (by decide)) (Or.inr (by decide))).trans pf0
  have pf1 := (yz9443.1 _ 28 (Or.inr (by decide)) (Or.inr (by decide)) (Or.inr (by decide)) (Or.inr (by decide)) (Or.inr (by decide)) (Or.inr (by decide))).trans pf1
  have pf2 := (yz9443.1 _ 29 (Or.inr (by decide)) (Or.inr (by decide)) (Or.inr (by decide)) (Or.inr (by decide)) (Or.inr (by decide)) (Or.inr (by decide))).trans pf2
  have qfaz9442 := (yz9443.1 _ 13 (Or.inr (by decide)) (Or.inr (by decide)) (Or.inr (by decide)) (Or.inr (by decide)) (Or.inr (by decide)) (Or.inr (by decide))).trans qfaz9442
  have hfr : (∀ b j : Nat, (tag b ≠ 46 ∨ j ≠ 8) → (tag b ≠ 46 ∨ j ≠ 9) → (tag b ≠ 46 ∨ j ≠ 10) → (tag b ≠ 46 ∨ j ≠ 11) → (tag b ≠ 46 ∨ j ≠ 12) → (tag b ≠ 46 ∨ j ≠ 13) → (tag b ≠ 46 ∨ j ≠ 14) → (tag b ≠ 46 ∨ j ≠ 15) → fld F b j = fld Fo b j) ∧ (∀ b j : Nat, elm F b j = elm Fo b j) := ⟨fun b j n46_8 n46_9 n46_10 n46_11 n46_12 n46_13 n46_14 n46_15 => (yz9443.1 b j n46_8 n46_9 n46_10 n46_11 n46_12 n46_15).trans (hfr.1 b j n46_8 n46_9 n46_10 n46_11 n46_12 n46_13 n46_14 n46_15), fun b j  => (yz9443.2 b j ).trans (hfr.2 b j )⟩
  have hstk := STK.tr hstk stz9443
  have hspt := SPT.tr hspt ptz9443
  refine lv_iload_n hx hb dX13_readWhole_11 rfl (lv_at hl 0 rfl) ?_
  exact t_iret hQ X hT (⟨(by omega), hfr, ⟨soz9443, spz9443, faz9443, qsoz9443, qspz9443, qfaz9443, (by omega), (by omega), (by omega), hstk, hspt, hkf⟩⟩) (Nat.le_of_ble_eq_true rfl) (Nat.le_of_ble_eq_true rfl) dX13_readWhole_12
set_option maxHeartbeats 4000000 in
set_option maxRecDepth 100000 in
theorem km22_X13_readSign (l : Launch) (G : KG) (tag : Nat → Nat) (L : List Nat) (Fo : Nat → va_E) (ho : okT G ttC tag L Fo) (p0 : Nat) (p1 : Int32) (x0 : Nat) (x1 : Nat) (x2 : Nat) (x3 : Int32) (x4 : Int32) (x5 : Int32) (m0 : p0 ∈ L) (g0 : tag p0 = 46) (h1 : 0 ≤ p1.toInt ∧ p1.toInt ≤ 1) (mx0 : x0 ∈ L) (gx0 : tag x0 = 44) (pf0 : fld Fo p0 4 = .ref x0) (mx1 : x1 ∈ L) (gx1 : tag x1 = 35) (pf1 : fld Fo x0 28 = .ref x1) (mx2 : x2 ∈ L) (gx2 : tag x2 = 36) (pf2 : fld Fo x0 29 = .ref x2) (hx3 : 0 ≤ x3.toInt ∧ x3.toInt ≤ 5) (pf3 : fld Fo p0 9 = .int x3) (hx4 : 0 ≤ x4.toInt ∧ x4.toInt ≤ 1000) (pf4 : fld Fo p0 8 = .int x4) (hx5 : 0 ≤ x5.toInt ∧ x5.toInt ≤ 7) (pf5 : fld Fo p0 13 = .int x5) (hrel : MSR Fo x1 x2) (hkf : KF x3 x5) : TMv l yX13_readSign cX13_readSign 4 { frames := 8, cells := 0, slots := 0, locals := 171 } G ttC tag L Fo [.ref p0, .int p1] (fun F1 => ((∀ b j : Nat, (tag b ≠ 46 ∨ j ≠ 8) → (tag b ≠ 46 ∨ j ≠ 9) → (tag b ≠ 46 ∨ j ≠ 10) → (tag b ≠ 46 ∨ j ≠ 11) → (tag b ≠ 46 ∨ j ≠ 12) → (tag b ≠ 46 ∨ j ≠ 13) → (tag b ≠ 46 ∨ j ≠ 14) → (tag b ≠ 46 ∨ j ≠ 15) → fld F1 b j = fld Fo b j) ∧ (∀ b j : Nat, tag b ≠ 33 → elm F1 b j = elm Fo b j)) ∧ (MSR F1 x1 x2) ∧ (∃ so sp fa : Int32, fld F1 p0 9 = .int so ∧ fld F1 p0 8 = .int sp ∧ fld F1 p0 13 = .int fa ∧ (0 ≤ so.toInt ∧ so.toInt ≤ 5) ∧ (0 ≤ sp.toInt ∧ sp.toInt ≤ 1000) ∧ (0 ≤ fa.toInt ∧ fa.toInt ≤ 7) ∧ STK x3 so ∧ SPT x3 x4 so sp ∧ KF so fa)) := by
  refine t_bodyv (y := yX13_readSign) (cd := cX13_readSign) (mL := 4) (rm := { frames := 8, cells := 0, slots := 0, locals := 171 }) (av := [.ref p0, .int p1]) (by decide) (Nat.le_of_ble_eq_true rfl) ho ?_
  intro p e s m args below meth c ls A Q hQ X hT hl
  have hx := X.1.1
  have hb := X.1.2.1
  have hl : lv_has ls 4 [(0, .ref p0), (1, .int p1)] := hl
  obtain ⟨F, hFo⟩ : ∃ F : Nat → va_E, F = Fo := ⟨_, rfl⟩
  rw [← hFo] at hT pf0 pf1 pf2 pf3 pf4 pf5 hrel
  have hfr : (∀ b j : Nat, (tag b ≠ 46 ∨ j ≠ 8) → (tag b ≠ 46 ∨ j ≠ 9) → (tag b ≠ 46 ∨ j ≠ 10) → (tag b ≠ 46 ∨ j ≠ 11) → (tag b ≠ 46 ∨ j ≠ 12) → (tag b ≠ 46 ∨ j ≠ 13) → (tag b ≠ 46 ∨ j ≠ 14) → (tag b ≠ 46 ∨ j ≠ 15) → fld F b j = fld Fo b j) ∧ (∀ b j : Nat, tag b ≠ 33 → elm F b j = elm Fo b j) := by
    rw [hFo]
    exact ⟨by intros; rfl, by intros; rfl⟩
  have hstk : STK x3 x3 := STK.rf
  have hspt : SPT x3 x4 x3 x4 := SPT.rf
  have K54 : ∀ (z9901 : Int32) (z9902 : Int32) (z9903 : Int32) (z9904 : Int32) (z9905 : Int32) (F : Nat → va_E) (H : Heap) (locs : List Loc) (ls : Array Slot), (0 ≤ z9901.toInt ∧ z9901.toInt ≤ 5) → (0 ≤ z9902.toInt ∧ z9902.toInt ≤ 12) → (0 ≤ z9903.toInt ∧ z9903.toInt ≤ 1000) → (0 ≤ z9904.toInt ∧ z9904.toInt ≤ 5) → (0 ≤ z9905.toInt ∧ z9905.toInt ≤ 7) → TH G ttC A s tag L F H locs → ((∀ b j : Nat, (tag b ≠ 46 ∨ j ≠ 8) → (tag b ≠ 46 ∨ j ≠ 9) → (tag b ≠ 46 ∨ j ≠ 10) → (tag b ≠ 46 ∨ j ≠ 11) → (tag b ≠ 46 ∨ j ≠ 12) → (tag b ≠ 46 ∨ j ≠ 13) → (tag b ≠ 46 ∨ j ≠ 14) → (tag b ≠ 46 ∨ j ≠ 15) → fld F b j = fld Fo b j) ∧ (∀ b j : Nat, tag b ≠ 33 → elm F b j = elm Fo b j)) → MSR F x1 x2 → (fld F p0 4 = .ref x0) → (fld F x0 28 = .ref x1) → (fld F x0 29 = .ref x2) → (fld F x0 0 = .int z9902) → (fld F p0 8 = .int z9903) → (fld F p0 9 = .int z9904) → (fld F p0 13 = .int z9905) → (STK x3 z9904) → (SPT x3 x4 z9904 z9903) → (KF z9904 z9905) → lv_has ls 4 [(0, .ref p0), (1, .int p1), (2, .int z9901)] → W p l e { frames := 8, cells := 0, slots := 0, locals := 171 } s m args below meth c H locs 0 0 Q (F0 m 54 ls []) := by
    intro z9901 z9902 z9903 z9904 z9905 F H locs ls rz9901 rz9902 rz9903 rz9904 rz9905 hT hfr hrel pf0 pf1 pf2 qz9902 qz9903 qz9904 qz9905 hstk hspt hkf hl
    refine lv_aload_n hx hb dX13_readSign_54 rfl (lv_at hl 0 rfl) ?_
    refine t_cVv (n := 0) (C := RX13) (T := TX13) (N := 37) (As := []) (rest := []) X hT (km14_X13_goesOn l G tag L F hT.2.2.2 p0 x0 x1 x2 z9904 z9903 z9905 m0 g0 mx0 gx0 pf0 mx1 gx1 pf1 mx2 gx2 pf2 (by omega) qz9904 (by omega) qz9903 (by omega) qz9905 hkf) m0 g0 rfl rfl qw_508 qw_509 qw_510 qw_5 qw_511 ⟨rfl, by decide +kernel, by decide +kernel, by decide +kernel⟩ ⟨Nat.le_of_ble_eq_true rfl, Nat.le_of_ble_eq_true rfl⟩ hl rfl rfl (Nat.le_of_ble_eq_true rfl) dX13_readSign_55 ⟨Nat.le_of_ble_eq_true rfl, Nat.le_of_ble_eq_true rfl⟩ (fun F H locs hT hz9906 => ?_)
    obtain ⟨yz9906, ⟨soz9906, spz9906, faz9906, qsoz9906, qspz9906, qfaz9906, rsoz9906, rspz9906, rfaz9906, stz9906, ptz9906, hkf⟩⟩ := hz9906
    have qz9902 := (yz9906.1 _ 0 (Or.inr (by decide)) (Or.inr (by decide)) (Or.inr (by decide)) (Or.inr (by decide)) (Or.inr (by decide)) (Or.inr (by decide))).trans qz9902
    have qz9905 := (yz9906.1 _ 13 (Or.inr (by decide)) (Or.inr (by decide)) (Or.inr (by decide)) (Or.inr (by decide)) (Or.inr (by decide)) (Or.inr (by decide))).trans qz9905
    have pf0 := (yz9906.1 _ 4 (Or.inr (by decide)) (Or.inr (by decide)) (Or.inr (by decide)) (Or.inr (by decide)) (Or.inr (by decide)) (Or.inr (by decide))).trans pf0
    have pf1 := (yz9906.1 _ 28 (Or.inr (by decide)) (Or.inr (by decide)) (Or.inr (by decide)) (Or.inr (by decide)) (Or.inr (by decide)) (Or.inr (by decide))).trans pf1
    have pf2 := (yz9906.1 _ 29 (Or.inr (by decide)) (Or.inr (by decide)) (Or.inr (by decide)) (Or.inr (by decide)) (Or.inr (by decide)) (Or.inr (by decide))).trans pf2
    have hfr : (∀ b j : Nat, (tag b ≠ 46 ∨ j ≠ 8) → (tag b ≠ 46 ∨ j ≠ 9) → (tag b ≠ 46 ∨ j ≠ 10) → (tag b ≠ 46 ∨ j ≠ 11) → (tag b ≠ 46 ∨ j ≠ 12) → (tag b ≠ 46 ∨ j ≠ 13) → (tag b ≠ 46 ∨ j ≠ 14) → (tag b ≠ 46 ∨ j ≠ 15) → fld F b j = fld Fo b j) ∧ (∀ b j : Nat, tag b ≠ 33 → elm F b j = elm Fo b j) := ⟨fun b j n46_8 n46_9 n46_10 n46_11 n46_12 n46_13 n46_14 n46_15 => (yz9906.1 b j n46_8 n46_9 n46_10 n46_11 n46_12 n46_15).trans (hfr.1 b j n46_8 n46_9 n46_10 n46_11 n46_12 n46_13 n46_14 n46_15), fun b j a33 => (yz9906.2 b j ).trans (hfr.2 b j a33)⟩
    have hrel := msr_of (fun j => yz9906.2 _ j ) (fun j => yz9906.2 _ j ) hrel
    have hstk := STK.tr hstk stz9906
    have hspt := SPT.tr hspt ptz9906
    refine lv_aload_n hx hb dX13_readSign_58 rfl (lv_at hl 0 rfl) ?_
    refine lv_iconst (v := 0) hx hb dX13_readSign_59 (by decide) ?_
    refine lv_sipush (v := 999) hx hb dX13_readSign_60 (by decide) ?_
    refine t_cVi (n := 2) (C := RX13) (T := TX13) (N := 37) (As := [.int 0, .int 999]) (rest := []) X hT (km21_X13_readWhole l G tag L F hT.2.2.2 p0 0 999 x0 x1 x2 soz9906 spz9906 faz9906 m0 g0 (by decide) (by decide) mx0 gx0 pf0 mx1 gx1 pf1 mx2 gx2 pf2 (by omega) qsoz9906 (by omega) qspz9906 (by omega) qfaz9906 hkf) m0 g0 rfl rfl qw_560 qw_561 qw_562 qw_5 qw_563 ⟨rfl, by decide +kernel, by decide +kernel, by decide +kernel⟩ ⟨Nat.le_of_ble_eq_true rfl, Nat.le_of_ble_eq_true rfl⟩ hl rfl rfl (Nat.le_of_ble_eq_true rfl) dX13_readSign_63 ⟨Nat.le_of_ble_eq_true rfl, Nat.le_of_ble_eq_true rfl⟩ (fun z9907 F H locs hT hz9907 => ?_)
    obtain ⟨hz9907, yz9907, ⟨soz9907, spz9907, faz9907, qsoz9907, qspz9907, qfaz9907, rsoz9907, rspz9907, rfaz9907, stz9907, ptz9907, hkf⟩⟩ := hz9907
    have qz9902 := (yz9907.1 _ 0 (Or.inr (by decide)) (Or.inr (by decide)) (Or.inr (by decide)) (Or.inr (by decide)) (Or.inr (by decide)) (Or.inr (by decide)) (Or.inr (by decide)) (Or.inr (by decide))).trans qz9902
    have pf0 := (yz9907.1 _ 4 (Or.inr (by decide)) (Or.inr (by decide)) (Or.inr (by decide)) (Or.inr (by decide)) (Or.inr (by decide)) (Or.inr (by decide)) (Or.inr (by decide)) (Or.inr (by decide))).trans pf0
    have pf1 := (yz9907.1 _ 28 (Or.inr (by decide)) (Or.inr (by decide)) (Or.inr (by decide)) (Or.inr (by decide)) (Or.inr (by decide)) (Or.inr (by decide)) (Or.inr (by decide)) (Or.inr (by decide))).trans pf1
    have pf2 := (yz9907.1 _ 29 (Or.inr (by decide)) (Or.inr (by decide)) (Or.inr (by decide)) (Or.inr (by decide)) (Or.inr (by decide)) (Or.inr (by decide)) (Or.inr (by decide)) (Or.inr (by decide))).trans pf2
    have hfr : (∀ b j : Nat, (tag b ≠ 46 ∨ j ≠ 8) → (tag b ≠ 46 ∨ j ≠ 9) → (tag b ≠ 46 ∨ j ≠ 10) → (tag b ≠ 46 ∨ j ≠ 11) → (tag b ≠ 46 ∨ j ≠ 12) → (tag b ≠ 46 ∨ j ≠ 13) → (tag b ≠ 46 ∨ j ≠ 14) → (tag b ≠ 46 ∨ j ≠ 15) → fld F b j = fld Fo b j) ∧ (∀ b j : Nat, tag b ≠ 33 → elm F b j = elm Fo b j) := ⟨fun b j n46_8 n46_9 n46_10 n46_11 n46_12 n46_13 n46_14 n46_15 => (yz9907.1 b j n46_8 n46_9 n46_10 n46_11 n46_12 n46_13 n46_14 n46_15).trans (hfr.1 b j n46_8 n46_9 n46_10 n46_11 n46_12 n46_13 n46_14 n46_15), fun b j a33 => (yz9907.2 b j ).trans (hfr.2 b j a33)⟩
    have hrel := msr_of (fun j => yz9907.2 _ j ) (fun j => yz9907.2 _ j ) hrel
    have hstk := STK.tr hstk stz9907
    have hspt := SPT.tr hspt ptz9907
    refine lv_istore_n (lv' := [(3, .int z9907), (0, .ref p0), (1, .int p1), (2, .int z9901)]) hx hb dX13_readSign_66 rfl hl (by decide) rfl (fun ls hl => ?_)
    refine lv_aload_n hx hb dX13_readSign_67 rfl (lv_at hl 1 rfl) ?_
    refine t_get (C := RX13) (T := TX13) (N := 37) X hT m0 g0 rfl rfl 9 (by decide) qw_478 inlX13 rfl dX13_readSign_68 (fun v9908 hv9908 ov9908 => ?_)
    obtain rfl : v9908 = .int soz9907 := hv9908.symm.trans qsoz9907
    refine lv_iconst (v := 5) hx hb dX13_readSign_71 (by decide) ?_
    refine lv_icmp_ne (tgt := 76) hx hb dX13_readSign_72 (by decide) (fun c9909 => ?_) (fun c9909 => ?_)
    · have w9910 := cv_ne (rfl : soz9907.toInt = soz9907.toInt) (by decide : (5 : Int32).toInt = 5) c9909
      refine lv_iload_n hx hb dX13_readSign_76 rfl (lv_at hl 2 rfl) ?_
      refine lv_if_eq (tgt := 93) hx hb dX13_readSign_77 (by decide) (fun c9911 => ?_) (fun c9911 => ?_)
      · have w9912 := cv_eq (rfl : p1.toInt = p1.toInt) (by decide : (0 : Int32).toInt = 0) c9911
        refine lv_aload_n hx hb dX13_readSign_93 rfl (lv_at hl 1 rfl) ?_
        refine t_get (C := RX13) (T := TX13) (N := 37) X hT m0 g0 rfl rfl 4 (by decide) qw_477 inlX13 rfl dX13_readSign_94 (fun v9913 hv9913 ov9913 => ?_)
        obtain rfl : v9913 = .ref x0 := hv9913.symm.trans pf0
        refine t_getN (C := RX12) (T := TX12) (N := 31) X hT mx0 gx0 rfl rfl 26 (by decide) (List.mem_of_getElem? (i := 30) rfl) inlX12 rfl dX13_readSign_97 (fun v9914 hv9914 ov9914 => ?_)
        obtain ⟨b9915, rfl, mb9915, gb9915⟩ := okV_r ov9914
        have gb9915 : tag b9915 = 33 := tg_of gb9915
        refine lv_iload_n hx hb dX13_readSign_100 rfl (lv_at hl 3 rfl) ?_
        refine lv_iload_n hx hb dX13_readSign_101 rfl (lv_at hl 0 rfl) ?_
        refine t_ist X hT mb9915 gb9915 rfl (by omega) (show (-2147483648) ≤ (z9907 : Int32).toInt ∧ (z9907 : Int32).toInt ≤ 2147483647 from (rg_all _)) dX13_readSign_102 (fun F H locs hT v9916 h1v9916 h2v9916 => ?_)
        have qz9902 := (h2v9916 _ _).trans qz9902
        have pf0 := (h2v9916 _ _).trans pf0
        have pf1 := (h2v9916 _ _).trans pf1
        have pf2 := (h2v9916 _ _).trans pf2
        have qsoz9907 := (h2v9916 _ _).trans qsoz9907
        have qspz9907 := (h2v9916 _ _).trans qspz9907
        have qfaz9907 := (h2v9916 _ _).trans qfaz9907
        have hv9914 := (h2v9916 _ _).trans hv9914
        have hfr : (∀ b j : Nat, (tag b ≠ 46 ∨ j ≠ 8) → (tag b ≠ 46 ∨ j ≠ 9) → (tag b ≠ 46 ∨ j ≠ 10) → (tag b ≠ 46 ∨ j ≠ 11) → (tag b ≠ 46 ∨ j ≠ 12) → (tag b ≠ 46 ∨ j ≠ 13) → (tag b ≠ 46 ∨ j ≠ 14) → (tag b ≠ 46 ∨ j ≠ 15) → fld F b j = fld Fo b j) ∧ (∀ b j : Nat, tag b ≠ 33 → elm F b j = elm Fo b j) := ⟨fun b j n46_8 n46_9 n46_10 n46_11 n46_12 n46_13 n46_14 n46_15 => (h2v9916 b j).trans (hfr.1 b j n46_8 n46_9 n46_10 n46_11 n46_12 n46_13 n46_14 n46_15), fun b j a33 => (h1v9916 b j (Or.inl (at_ne gb9915 a33))).trans (hfr.2 b j a33)⟩
        have hrel := msr_of (fun j => h1v9916 _ j (Or.inl (tne gx1 gb9915 (by decide)))) (fun j => h1v9916 _ j (Or.inl (tne gx2 gb9915 (by decide)))) hrel
        exact t_vret hQ X hT ⟨hfr, hrel, ⟨soz9907, spz9907, faz9907, qsoz9907, qspz9907, qfaz9907, (by omega), (by omega), (by omega), hstk, hspt, hkf⟩⟩ (Nat.le_of_ble_eq_true rfl) (Nat.le_of_ble_eq_true rfl) dX13_readSign_103
      · have w9917 := cv_ne (rfl : p1.toInt = p1.toInt) (by decide : (0 : Int32).toInt = 0) c9911
        refine lv_aload_n hx hb dX13_readSign_80 rfl (lv_at hl 1 rfl) ?_
        refine t_get (C := RX13) (T := TX13) (N := 37) X hT m0 g0 rfl rfl 4 (by decide) qw_477 inlX13 rfl dX13_readSign_81 (fun v9918 hv9918 ov9918 => ?_)
        obtain rfl : v9918 = .ref x0 := hv9918.symm.trans pf0
        refine t_getN (C := RX12) (T := TX12) (N := 31) X hT mx0 gx0 rfl rfl 25 (by decide) (List.mem_of_getElem? (i := 29) rfl) inlX12 rfl dX13_readSign_84 (fun v9919 hv9919 ov9919 => ?_)
        obtain ⟨b9920, rfl, mb9920, gb9920⟩ := okV_r ov9919
        have gb9920 : tag b9920 = 33 := tg_of gb9920
        refine lv_iload_n hx hb dX13_readSign_87 rfl (lv_at hl 3 rfl) ?_
        refine lv_iload_n hx hb dX13_readSign_88 rfl (lv_at hl 0 rfl) ?_
        refine t_ist X hT mb9920 gb9920 rfl (by omega) (show (-2147483648) ≤ (z9907 : Int32).toInt ∧ (z9907 : Int32).toInt ≤ 2147483647 from (rg_all _)) dX13_readSign_89 (fun F H locs hT v9921 h1v9921 h2v9921 => ?_)
        have qz9902 := (h2v9921 _ _).trans qz9902
        have pf0 := (h2v9921 _ _).trans pf0
        have pf1 := (h2v9921 _ _).trans pf1
        have pf2 := (h2v9921 _ _).trans pf2
        have qsoz9907 := (h2v9921 _ _).trans qsoz9907
        have qspz9907 := (h2v9921 _ _).trans qspz9907
        have qfaz9907 := (h2v9921 _ _).trans qfaz9907
        have hv9919 := (h2v9921 _ _).trans hv9919
        have hfr : (∀ b j : Nat, (tag b ≠ 46 ∨ j ≠ 8) → (tag b ≠ 46 ∨ j ≠ 9) → (tag b ≠ 46 ∨ j ≠ 10) → (tag b ≠ 46 ∨ j ≠ 11) → (tag b ≠ 46 ∨ j ≠ 12) → (tag b ≠ 46 ∨ j ≠ 13) → (tag b ≠ 46 ∨ j ≠ 14) → (tag b ≠ 46 ∨ j ≠ 15) → fld F b j = fld Fo b j) ∧ (∀ b j : Nat, tag b ≠ 33 → elm F b j = elm Fo b j) := ⟨fun b j n46_8 n46_9 n46_10 n46_11 n46_12 n46_13 n46_14 n46_15 => (h2v9921 b j).trans (hfr.1 b j n46_8 n46_9 n46_10 n46_11 n46_12 n46_13 n46_14 n46_15), fun b j a33 => (h1v9921 b j (Or.inl (at_ne gb9920 a33))).trans (hfr.2 b j a33)⟩
        have hrel := msr_of (fun j => h1v9921 _ j (Or.inl (tne gx1 gb9920 (by decide)))) (fun j => h1v9921 _ j (Or.inl (tne gx2 gb9920 (by decide)))) hrel
        refine lv_goto (tgt := 103) hx hb dX13_readSign_90 (by decide) ?_
        exact t_vret hQ X hT ⟨hfr, hrel, ⟨soz9907, spz9907, faz9907, qsoz9907, qspz9907, qfaz9907, (by omega), (by omega), (by omega), hstk, hspt, hkf⟩⟩ (Nat.le_of_ble_eq_true rfl) (Nat.le_of_ble_eq_true rfl) dX13_readSign_103
    · have w9922 := cv_eq (rfl : soz9907.toInt = soz9907.toInt) (by decide : (5 : Int32).toInt = 5) c9909
      exact t_vret hQ X hT ⟨hfr, hrel, ⟨soz9907, spz9907, faz9907, qsoz9907, qspz9907, qfaz9907, (by omega), (by omega), (by omega), hstk, hspt, hkf⟩⟩ (Nat.le_of_ble_eq_true rfl) (Nat.le_of_ble_eq_true rfl) dX13_readSign_75
  have K45 : ∀ (z9923 : Int32) (z9924 : Int32) (z9925 : Int32) (z9926 : Int32) (z9927 : Int32) (z9928 : Int32) (F : Nat → va_E) (H : Heap) (locs : List Loc) (ls : Array Slot), (0 ≤ z9923.toInt ∧ z9923.toInt ≤ 5) → (1 ≤ z9925.toInt ∧ z9925.toInt ≤ 12) → (0 ≤ z9926.toInt ∧ z9926.toInt ≤ 1000) → (0 ≤ z9927.toInt ∧ z9927.toInt ≤ 4) → (0 ≤ z9928.toInt ∧ z9928.toInt ≤ 7) → TH G ttC A s tag L F H locs → ((∀ b j : Nat, (tag b ≠ 46 ∨ j ≠ 8) → (tag b ≠ 46 ∨ j ≠ 9) → (tag b ≠ 46 ∨ j ≠ 10) → (tag b ≠ 46 ∨ j ≠ 11) → (tag b ≠ 46 ∨ j ≠ 12) → (tag b ≠ 46 ∨ j ≠ 13) → (tag b ≠ 46 ∨ j ≠ 14) → (tag b ≠ 46 ∨ j ≠ 15) → fld F b j = fld Fo b j) ∧ (∀ b j : Nat, tag b ≠ 33 → elm F b j = elm Fo b j)) → MSR F x1 x2 → (fld F p0 4 = .ref x0) → (fld F x0 28 = .ref x1) → (fld F x0 29 = .ref x2) → (fld F x0 0 = .int z9925) → (fld F p0 8 = .int z9926) → (fld F p0 9 = .int z9927) → (fld F p0 13 = .int z9928) → (STK x3 z9927) → (SPT x3 x4 z9927 z9926) → (KF z9927 z9928) → lv_has ls 4 [(0, .ref p0), (1, .int p1), (2, .int z9923)] → W p l e { frames := 8, cells := 0, slots := 0, locals := 171 } s m args below meth c H locs 0 0 Q (F0 m 45 ls [.int z9924]) := by
    intro z9923 z9924 z9925 z9926 z9927 z9928 F H locs ls rz9923 rz9925 rz9926 rz9927 rz9928 hT hfr hrel pf0 pf1 pf2 qz9925 qz9926 qz9927 qz9928 hstk hspt hkf hl
    have rz9924 := rg_all z9924
    refine lv_iconst (v := (-1)) hx hb dX13_readSign_45 (by decide) ?_
    refine lv_icmp_eq (tgt := 54) hx hb dX13_readSign_46 (by decide) (fun c9929 => ?_) (fun c9929 => ?_)
    · have w9930 := cv_eq (rfl : z9924.toInt = z9924.toInt) (by decide : ((-1) : Int32).toInt = (-1)) c9929
      exact K54 z9923 z9925 z9926 z9927 z9928 _ _ _ _ (by omega) (by omega) (by omega) (by omega) (by omega) hT hfr hrel pf0 pf1 pf2 qz9925 qz9926 qz9927 qz9928 hstk hspt hkf (lv_sub hl [0, 1, 2] rfl)
    · have w9931 := cv_ne (rfl : z9924.toInt = z9924.toInt) (by decide : ((-1) : Int32).toInt = (-1)) c9929
      refine lv_aload_n hx hb dX13_readSign_49 rfl (lv_at hl 0 rfl) ?_
      refine lv_iconst (v := 3) hx hb dX13_readSign_50 (by decide) ?_
      refine t_cVv (n := 1) (C := RX13) (T := TX13) (N := 37) (As := [.int 3]) (rest := []) X hT (km10_X13_flaw l G tag L F hT.2.2.2 p0 3 x0 x1 x2 z9927 z9926 z9928 m0 g0 (by decide) mx0 gx0 pf0 mx1 gx1 pf1 mx2 gx2 pf2 (by omega) qz9927 (by omega) qz9926 (by omega) qz9928 hkf) m0 g0 rfl rfl qw_548 qw_549 qw_550 qw_5 qw_551 ⟨rfl, by decide +kernel, by decide +kernel, by decide +kernel⟩ ⟨Nat.le_of_ble_eq_true rfl, Nat.le_of_ble_eq_true rfl⟩ hl rfl rfl (Nat.le_of_ble_eq_true rfl) dX13_readSign_51 ⟨Nat.le_of_ble_eq_true rfl, Nat.le_of_ble_eq_true rfl⟩ (fun F H locs hT hz9932 => ?_)
      obtain ⟨yz9932, ⟨soz9932, spz9932, faz9932, qsoz9932, qspz9932, qfaz9932, rsoz9932, rspz9932, rfaz9932, stz9932, ptz9932, hkf, pxz9932_0⟩⟩ := hz9932
      have qz9925 := (yz9932.1 _ 0 (Or.inr (by decide)) (Or.inr (by decide)) (Or.inr (by decide))).trans qz9925
      have qz9926 := (yz9932.1 _ 8 (Or.inr (by decide)) (Or.inr (by decide)) (Or.inr (by decide))).trans qz9926
      have pf0 := (yz9932.1 _ 4 (Or.inr (by decide)) (Or.inr (by decide)) (Or.inr (by decide))).trans pf0
      have pf1 := (yz9932.1 _ 28 (Or.inr (by decide)) (Or.inr (by decide)) (Or.inr (by decide))).trans pf1
      have pf2 := (yz9932.1 _ 29 (Or.inr (by decide)) (Or.inr (by decide)) (Or.inr (by decide))).trans pf2
      have hfr : (∀ b j : Nat, (tag b ≠ 46 ∨ j ≠ 8) → (tag b ≠ 46 ∨ j ≠ 9) → (tag b ≠ 46 ∨ j ≠ 10) → (tag b ≠ 46 ∨ j ≠ 11) → (tag b ≠ 46 ∨ j ≠ 12) → (tag b ≠ 46 ∨ j ≠ 13) → (tag b ≠ 46 ∨ j ≠ 14) → (tag b ≠ 46 ∨ j ≠ 15) → fld F b j = fld Fo b j) ∧ (∀ b j : Nat, tag b ≠ 33 → elm F b j = elm Fo b j) := ⟨fun b j n46_8 n46_9 n46_10 n46_11 n46_12 n46_13 n46_14 n46_15 => (yz9932.1 b j n46_9 n46_13 n46_14).trans (hfr.1 b j n46_8 n46_9 n46_10 n46_11 n46_12 n46_13 n46_14 n46_15), fun b j a33 => (yz9932.2 b j ).trans (hfr.2 b j a33)⟩
      have hrel := msr_of (fun j => yz9932.2 _ j ) (fun j => yz9932.2 _ j ) hrel
      have hstk := STK.tr hstk stz9932
      have hspt := SPT.tr hspt ptz9932
      exact K54 z9923 z9925 spz9932 soz9932 faz9932 _ _ _ _ (by omega) (by omega) (by omega) (by omega) (by omega) hT hfr hrel pf0 pf1 pf2 qz9925 qspz9932 qsoz9932 qfaz9932 hstk hspt hkf (lv_sub hl [0, 1, 2] rfl)
  refine lv_aload_n hx hb dX13_readSign_0 rfl (lv_at hl 0 rfl) ?_
  refine lv_iconst (v := 0) hx hb dX13_readSign_1 (by decide) ?_
  refine lv_iconst (v := 1) hx hb dX13_readSign_2 (by decide) ?_
  obtain ⟨z9933, qz9933, rz9933⟩ := t_fld hT mx0 gx0 rfl 0 rfl
  have rz9933 : 0 ≤ z9933.toInt ∧ z9933.toInt ≤ 12 := rz9933
  refine t_cVv (n := 2) (C := RX13) (T := TX13) (N := 37) (As := [.int 0, .int 1]) (rest := []) X hT (km15_X13_begins l G tag L F hT.2.2.2 p0 0 1 x0 x1 x2 x3 x4 x5 z9933 m0 g0 mx0 gx0 pf0 mx1 gx1 pf1 mx2 gx2 pf2 (by omega) pf3 (by omega) pf4 (by omega) pf5 (by omega) qz9933 hkf) m0 g0 rfl rfl qw_575 qw_576 qw_577 qw_5 qw_578 ⟨rfl, by decide +kernel, by decide +kernel, by decide +kernel⟩ ⟨Nat.le_of_ble_eq_true rfl, Nat.le_of_ble_eq_true rfl⟩ hl rfl rfl (Nat.le_of_ble_eq_true rfl) dX13_readSign_3 ⟨Nat.le_of_ble_eq_true rfl, Nat.le_of_ble_eq_true rfl⟩ (fun F H locs hT hz9934 => ?_)
  obtain ⟨yz9934, ⟨soz9934, spz9934, faz9934, qsoz9934, qspz9934, qfaz9934, rsoz9934, rspz9934, rfaz9934, stz9934, ptz9934, hkf, pxz9934_0⟩⟩ := hz9934
  have pf0 := (yz9934.1 _ 4 (Or.inr (by decide)) (Or.inr (by decide)) (Or.inr (by decide)) (Or.inr (by decide)) (Or.inr (by decide)) (Or.inr (by decide)) (Or.inr (by decide)) (Or.inr (by decide))).trans pf0
  have pf1 := (yz9934.1 _ 28 (Or.inr (by decide)) (Or.inr (by decide)) (Or.inr (by decide)) (Or.inr (by decide)) (Or.inr (by decide)) (Or.inr (by decide)) (Or.inr (by decide)) (Or.inr (by decide))).trans pf1
  have pf2 := (yz9934.1 _ 29 (Or.inr (by decide)) (Or.inr (by decide)) (Or.inr (by decide)) (Or.inr (by decide)) (Or.inr (by decide)) (Or.inr (by decide)) (Or.inr (by decide)) (Or.inr (by decide))).trans pf2
  have qz9933 := (yz9934.1 _ 0 (Or.inr (by decide)) (Or.inr (by decide)) (Or.inr (by decide)) (Or.inr (by decide)) (Or.inr (by decide)) (Or.inr (by decide)) (Or.inr (by decide)) (Or.inr (by decide))).trans qz9933
  have hfr : (∀ b j : Nat, (tag b ≠ 46 ∨ j ≠ 8) → (tag b ≠ 46 ∨ j ≠ 9) → (tag b ≠ 46 ∨ j ≠ 10) → (tag b ≠ 46 ∨ j ≠ 11) → (tag b ≠ 46 ∨ j ≠ 12) → (tag b ≠ 46 ∨ j ≠ 13) → (tag b ≠ 46 ∨ j ≠ 14) → (tag b ≠ 46 ∨ j ≠ 15) → fld F b j = fld Fo b j) ∧ (∀ b j : Nat, tag b ≠ 33 → elm F b j = elm Fo b j) := ⟨fun b j n46_8 n46_9 n46_10 n46_11 n46_12 n46_13 n46_14 n46_15 => (yz9934.1 b j n46_8 n46_9 n46_10 n46_11 n46_12 n46_13 n46_14 n46_15).trans (hfr.1 b j n46_8 n46_9 n46_10 n46_11 n46_12 n46_13 n46_14 n46_15), fun b j a33 => (yz9934.2 b j ).trans (hfr.2 b j a33)⟩
  have hrel := msr_of (fun j => yz9934.2 _ j ) (fun j => yz9934.2 _ j ) hrel
  have hstk := STK.tr hstk stz9934
  have hspt := SPT.tr hspt ptz9934
  have k9935 : (0 : Int32).toInt = 0 := by decide
  have k9936 : (1 : Int32).toInt = 1 := by decide
  refine lv_aload_n hx hb dX13_readSign_6 rfl (lv_at hl 0 rfl) ?_
  refine lv_iconst (v := 3) hx hb dX13_readSign_7 (by decide) ?_
  refine t_cVi (n := 1) (C := RX13) (T := TX13) (N := 37) (As := [.int 3]) (rest := []) X hT (km18_X13_known l G tag L F hT.2.2.2 p0 3 x0 x1 x2 soz9934 spz9934 faz9934 m0 g0 (by decide) mx0 gx0 pf0 mx1 gx1 pf1 mx2 gx2 pf2 (by omega) qsoz9934 (by omega) qspz9934 (by omega) qfaz9934 hrel hkf) m0 g0 rfl rfl qw_636 qw_637 qw_638 qw_5 qw_639 ⟨rfl, by decide +kernel, by decide +kernel, by decide +kernel⟩ ⟨Nat.le_of_ble_eq_true rfl, Nat.le_of_ble_eq_true rfl⟩ hl rfl rfl (Nat.le_of_ble_eq_true rfl) dX13_readSign_8 ⟨Nat.le_of_ble_eq_true rfl, Nat.le_of_ble_eq_true rfl⟩ (fun z9937 F H locs hT hz9937 => ?_)
  obtain ⟨hz9937, yz9937, hrel, ⟨soz9937, spz9937, faz9937, qsoz9937, qspz9937, qfaz9937, rsoz9937, rspz9937, rfaz9937, stz9937, ptz9937, hkf⟩⟩ := hz9937
  have pf0 := (yz9937.1 _ 4 (Or.inr (by decide)) (Or.inr (by decide)) (Or.inr (by decide))).trans pf0
  have pf1 := (yz9937.1 _ 28 (Or.inr (by decide)) (Or.inr (by decide)) (Or.inr (by decide))).trans pf1
  have pf2 := (yz9937.1 _ 29 (Or.inr (by decide)) (Or.inr (by decide)) (Or.inr (by decide))).trans pf2
  have qz9933 := (yz9937.1 _ 0 (Or.inr (by decide)) (Or.inr (by decide)) (Or.inr (by decide))).trans qz9933
  have qspz9934 := (yz9937.1 _ 8 (Or.inr (by decide)) (Or.inr (by decide)) (Or.inr (by decide))).trans qspz9934
  have hfr : (∀ b j : Nat, (tag b ≠ 46 ∨ j ≠ 8) → (tag b ≠ 46 ∨ j ≠ 9) → (tag b ≠ 46 ∨ j ≠ 10) → (tag b ≠ 46 ∨ j ≠ 11) → (tag b ≠ 46 ∨ j ≠ 12) → (tag b ≠ 46 ∨ j ≠ 13) → (tag b ≠ 46 ∨ j ≠ 14) → (tag b ≠ 46 ∨ j ≠ 15) → fld F b j = fld Fo b j) ∧ (∀ b j : Nat, tag b ≠ 33 → elm F b j = elm Fo b j) := ⟨fun b j n46_8 n46_9 n46_10 n46_11 n46_12 n46_13 n46_14 n46_15 => (yz9937.1 b j n46_9 n46_13 n46_14).trans (hfr.1 b j n46_8 n46_9 n46_10 n46_11 n46_12 n46_13 n46_14 n46_15), fun b j a33 => (yz9937.2 b j ).trans (hfr.2 b j a33)⟩
  have hstk := STK.tr hstk stz9937
  have hspt := SPT.tr hspt ptz9937
  refine lv_istore_n (lv' := [(2, .int z9937), (0, .ref p0), (1, .int p1)]) hx hb dX13_readSign_11 rfl hl (by decide) rfl (fun ls hl => ?_)
  refine lv_aload_n hx hb dX13_readSign_12 rfl (lv_at hl 1 rfl) ?_
  refine t_get (C := RX13) (T := TX13) (N := 37) X hT m0 g0 rfl rfl 9 (by decide) qw_478 inlX13 rfl dX13_readSign_13 (fun v9938 hv9938 ov9938 => ?_)
  obtain rfl : v9938 = .int soz9937 := hv9938.symm.trans qsoz9937
  refine lv_iconst (v := 5) hx hb dX13_readSign_16 (by decide) ?_
  refine lv_icmp_eq (tgt := 54) hx hb dX13_readSign_17 (by decide) (fun c9939 => ?_) (fun c9939 => ?_)
  · have w9940 := cv_eq (rfl : soz9937.toInt = soz9937.toInt) (by decide : (5 : Int32).toInt = 5) c9939
    exact K54 z9937 z9933 spz9937 soz9937 faz9937 _ _ _ _ (by omega) (by omega) (by omega) (by omega) (by omega) hT hfr hrel pf0 pf1 pf2 qz9933 qspz9937 qsoz9937 qfaz9937 hstk hspt hkf (lv_sub hl [1, 2, 0] rfl)
  · have w9941 := cv_ne (rfl : soz9937.toInt = soz9937.toInt) (by decide : (5 : Int32).toInt = 5) c9939
    have w9942 := (fun h9 => pxz9934_0 (fun e9 => h9 (stz9937 e9))) (by omega)
    refine lv_iload_n hx hb dX13_readSign_20 rfl (lv_at hl 2 rfl) ?_
    refine lv_if_eq (tgt := 36) hx hb dX13_readSign_21 (by decide) (fun c9943 => ?_) (fun c9943 => ?_)
    · have w9944 := cv_eq (rfl : p1.toInt = p1.toInt) (by decide : (0 : Int32).toInt = 0) c9943
      refine lv_aload_n hx hb dX13_readSign_36 rfl (lv_at hl 1 rfl) ?_
      refine t_get (C := RX13) (T := TX13) (N := 37) X hT m0 g0 rfl rfl 4 (by decide) qw_477 inlX13 rfl dX13_readSign_37 (fun v9945 hv9945 ov9945 => ?_)
      obtain rfl : v9945 = .ref x0 := hv9945.symm.trans pf0
      refine t_getN (C := RX12) (T := TX12) (N := 31) X hT mx0 gx0 rfl rfl 26 (by decide) (List.mem_of_getElem? (i := 30) rfl) inlX12 rfl dX13_readSign_40 (fun v9946 hv9946 ov9946 => ?_)
      obtain ⟨b9947, rfl, mb9947, gb9947⟩ := okV_r ov9946
      have gb9947 : tag b9947 = 33 := tg_of gb9947
      refine lv_iload_n hx hb dX13_readSign_43 rfl (lv_at hl 0 rfl) ?_
      refine t_ild X hT mb9947 gb9947 rfl (by omega) dX13_readSign_44 (fun z9948 vz9948 rz9948 => ?_)
      have rz9948 : (-2147483648) ≤ z9948.toInt ∧ z9948.toInt ≤ 2147483647 := rz9948
      exact K45 z9937 z9948 z9933 spz9937 soz9937 faz9937 _ _ _ _ (by omega) (by omega) (by omega) (by omega) (by omega) hT hfr hrel pf0 pf1 pf2 qz9933 qspz9937 qsoz9937 qfaz9937 hstk hspt hkf (lv_sub hl [1, 2, 0] rfl)
    · have w9949 := cv_ne (rfl : p1.toInt = p1.toInt) (by decide : (0 : Int32).toInt = 0) c9943
      refine lv_aload_n hx hb dX13_readSign_24 rfl (lv_at hl 1 rfl) ?_
      refine t_get (C := RX13) (T := TX13) (N := 37) X hT m0 g0 rfl rfl 4 (by decide) qw_477 inlX13 rfl dX13_readSign_25 (fun v9950 hv9950 ov9950 => ?_)
      obtain rfl : v9950 = .ref x0 := hv9950.symm.trans pf0
      refine t_getN (C := RX12) (T := TX12) (N := 31) X hT mx0 gx0 rfl rfl 25 (by decide) (List.mem_of_getElem? (i := 29) rfl) inlX12 rfl dX13_readSign_28 (fun v9951 hv9951 ov9951 => ?_)
      obtain ⟨b9952, rfl, mb9952, gb9952⟩ := okV_r ov9951
      have gb9952 : tag b9952 = 33 := tg_of gb9952
      refine lv_iload_n hx hb dX13_readSign_31 rfl (lv_at hl 0 rfl) ?_
      refine t_ild X hT mb9952 gb9952 rfl (by omega) dX13_readSign_32 (fun z9953 vz9953 rz9953 => ?_)
      have rz9953 : (-2147483648) ≤ z9953.toInt ∧ z9953.toInt ≤ 2147483647 := rz9953
      refine lv_goto (tgt := 45) hx hb dX13_readSign_33 (by decide) ?_
      exact K45 z9937 z9953 z9933 spz9937 soz9937 faz9937 _ _ _ _ (by omega) (by omega) (by omega) (by omega) (by omega) hT hfr hrel pf0 pf1 pf2 qz9933 qspz9937 qsoz9937 qfaz9937 hstk hspt hkf (lv_sub hl [1, 2, 0] rfl)
set_option maxHeartbeats 4000000 in
set_option maxRecDepth 100000 in
theorem km23_X13_readKnown (l : Launch) (G : KG) (tag : Nat → Nat) (L : List Nat) (Fo : Nat → va_E) (ho : okT G ttC tag L Fo) (p0 : Nat) (p1 : Int32) (x0 : Nat) (x1 : Nat) (x2 : Nat) (x3 : Int32) (x4 : Int32) (x5 : Int32) (m0 : p0 ∈ L) (g0 : tag p0 = 46) (h1 : 3 ≤ p1.toInt ∧ p1.toInt ≤ 3) (mx0 : x0 ∈ L) (gx0 : tag x0 = 44) (pf0 : fld Fo p0 4 = .ref x0) (mx1 : x1 ∈ L) (gx1 : tag x1 = 35) (pf1 : fld Fo x0 28 = .ref x1) (mx2 : x2 ∈ L) (gx2 : tag x2 = 36) (pf2 : fld Fo x0 29 = .ref x2) (hx3 : 0 ≤ x3.toInt ∧ x3.toInt ≤ 5) (pf3 : fld Fo p0 9 = .int x3) (hx4 : 0 ≤ x4.toInt ∧ x4.toInt ≤ 1000) (pf4 : fld Fo p0 8 = .int x4) (hx5 : 0 ≤ x5.toInt ∧ x5.toInt ≤ 7) (pf5 : fld Fo p0 13 = .int x5) (hrel : MSR Fo x1 x2) (hkf : KF x3 x5) : TMi l yX13_readKnown cX13_readKnown 3 (some .int) { frames := 8, cells := 0, slots := 0, locals := 171 } G ttC tag L Fo [.ref p0, .int p1] (fun r F1 => (0 ≤ r.toInt ∧ r.toInt ≤ 5) ∧ ((∀ b j : Nat, (tag b ≠ 46 ∨ j ≠ 8) → (tag b ≠ 46 ∨ j ≠ 9) → (tag b ≠ 46 ∨ j ≠ 10) → (tag b ≠ 46 ∨ j ≠ 11) → (tag b ≠ 46 ∨ j ≠ 12) → (tag b ≠ 46 ∨ j ≠ 13) → (tag b ≠ 46 ∨ j ≠ 14) → (tag b ≠ 46 ∨ j ≠ 15) → fld F1 b j = fld Fo b j) ∧ (∀ b j : Nat, elm F1 b j = elm Fo b j)) ∧ (MSR F1 x1 x2) ∧ (∃ so sp fa : Int32, fld F1 p0 9 = .int so ∧ fld F1 p0 8 = .int sp ∧ fld F1 p0 13 = .int fa ∧ (0 ≤ so.toInt ∧ so.toInt ≤ 5) ∧ (0 ≤ sp.toInt ∧ sp.toInt ≤ 1000) ∧ (0 ≤ fa.toInt ∧ fa.toInt ≤ 7) ∧ STK x3 so ∧ SPT x3 x4 so sp ∧ KF so fa)) := by
  refine t_bodyi (y := yX13_readKnown) (cd := cX13_readKnown) (mL := 3) (rt := (some .int)) (rm := { frames := 8, cells := 0, slots := 0, locals := 171 }) (av := [.ref p0, .int p1]) (by decide) (Nat.le_of_ble_eq_true rfl) ho ?_
  intro p e s m args below meth c ls A Q hQ X hT hl
  have hx := X.1.1
  have hb := X.1.2.1
  have hl : lv_has ls 3 [(0, .ref p0), (1, .int p1)] := hl
  obtain ⟨F, hFo⟩ : ∃ F : Nat → va_E, F = Fo := ⟨_, rfl⟩
  rw [← hFo] at hT pf0 pf1 pf2 pf3 pf4 pf5 hrel
  have hfr : (∀ b j : Nat, (tag b ≠ 46 ∨ j ≠ 8) → (tag b ≠ 46 ∨ j ≠ 9) → (tag b ≠ 46 ∨ j ≠ 10) → (tag b ≠ 46 ∨ j ≠ 11) → (tag b ≠ 46 ∨ j ≠ 12) → (tag b ≠ 46 ∨ j ≠ 13) → (tag b ≠ 46 ∨ j ≠ 14) → (tag b ≠ 46 ∨ j ≠ 15) → fld F b j = fld Fo b j) ∧ (∀ b j : Nat, elm F b j = elm Fo b j) := by
    rw [hFo]
    exact ⟨by intros; rfl, by intros; rfl⟩
  have hstk : STK x3 x3 := STK.rf
  have hspt : SPT x3 x4 x3 x4 := SPT.rf
  refine lv_aload_n hx hb dX13_readKnown_0 rfl (lv_at hl 0 rfl) ?_
  refine lv_iload_n hx hb dX13_readKnown_1 rfl (lv_at hl 1 rfl) ?_
  refine t_cVi (n := 1) (C := RX13) (T := TX13) (N := 37) (As := [.int p1]) (rest := []) X hT (km18_X13_known l G tag L F hT.2.2.2 p0 p1 x0 x1 x2 x3 x4 x5 m0 g0 (by omega) mx0 gx0 pf0 mx1 gx1 pf1 mx2 gx2 pf2 (by omega) pf3 (by omega) pf4 (by omega) pf5 hrel hkf) m0 g0 rfl rfl qw_636 qw_637 qw_638 qw_5 qw_639 ⟨rfl, by decide +kernel, by decide +kernel, by decide +kernel⟩ ⟨Nat.le_of_ble_eq_true rfl, Nat.le_of_ble_eq_true rfl⟩ hl rfl rfl (Nat.le_of_ble_eq_true rfl) dX13_readKnown_2 ⟨Nat.le_of_ble_eq_true rfl, Nat.le_of_ble_eq_true rfl⟩ (fun z9986 F H locs hT hz9986 => ?_)
  obtain ⟨hz9986, yz9986, hrel, ⟨soz9986, spz9986, faz9986, qsoz9986, qspz9986, qfaz9986, rsoz9986, rspz9986, rfaz9986, stz9986, ptz9986, hkf⟩⟩ := hz9986
  have pf0 := (yz9986.1 _ 4 (Or.inr (by decide)) (Or.inr (by decide)) (Or.inr (by decide))).trans pf0
  have pf1 := (yz9986.1 _ 28 (Or.inr (by decide)) (Or.inr (by decide)) (Or.inr (by decide))).trans pf1
  have pf2 := (yz9986.1 _ 29 (Or.inr (by decide)) (Or.inr (by decide)) (Or.inr (by decide))).trans pf2
  have pf4 := (yz9986.1 _ 8 (Or.inr (by decide)) (Or.inr (by decide)) (Or.inr (by decide))).trans pf4
  have hfr : (∀ b j : Nat, (tag b ≠ 46 ∨ j ≠ 8) → (tag b ≠ 46 ∨ j ≠ 9) → (tag b ≠ 46 ∨ j ≠ 10) → (tag b ≠ 46 ∨ j ≠ 11) → (tag b ≠ 46 ∨ j ≠ 12) → (tag b ≠ 46 ∨ j ≠ 13) → (tag b ≠ 46 ∨ j ≠ 14) → (tag b ≠ 46 ∨ j ≠ 15) → fld F b j = fld Fo b j) ∧ (∀ b j : Nat, elm F b j = elm Fo b j) := ⟨fun b j n46_8 n46_9 n46_10 n46_11 n46_12 n46_13 n46_14 n46_15 => (yz9986.1 b j n46_9 n46_13 n46_14).trans (hfr.1 b j n46_8 n46_9 n46_10 n46_11 n46_12 n46_13 n46_14 n46_15), fun b j  => (yz9986.2 b j ).trans (hfr.2 b j )⟩
  have hstk := STK.tr hstk stz9986
  have hspt := SPT.tr hspt ptz9986
  refine lv_istore_n (lv' := [(2, .int z9986), (0, .ref p0), (1, .int p1)]) hx hb dX13_readKnown_5 rfl hl (by decide) rfl (fun ls hl => ?_)
  refine lv_aload_n hx hb dX13_readKnown_6 rfl (lv_at hl 1 rfl) ?_
  refine t_cVv (n := 0) (C := RX13) (T := TX13) (N := 37) (As := []) (rest := []) X hT (km14_X13_goesOn l G tag L F hT.2.2.2 p0 x0 x1 x2 soz9986 spz9986 faz9986 m0 g0 mx0 gx0 pf0 mx1 gx1 pf1 mx2 gx2 pf2 (by omega) qsoz9986 (by omega) qspz9986 (by omega) qfaz9986 hkf) m0 g0 rfl rfl qw_508 qw_509 qw_510 qw_5 qw_511 ⟨rfl, by decide +kernel, by decide +kernel, by decide +kernel⟩ ⟨Nat.le_of_ble_eq_true rfl, Nat.le_of_ble_eq_true rfl⟩ hl rfl rfl (Nat.le_of_ble_eq_true rfl) dX13_readKnown_7 ⟨Nat.le_of_ble_eq_true rfl, Nat.le_of_ble_eq_true rfl⟩ (fun F H locs hT hz9987 => ?_)
  obtain ⟨yz9987, ⟨soz9987, spz9987, faz9987, qsoz9987, qspz9987, qfaz9987, rsoz9987, rspz9987, rfaz9987, stz9987, ptz9987, hkf⟩⟩ := hz9987
  have pf0 := (yz9987.1 _ 4 (Or.inr (by decide)) (Or.inr (by decide)) (Or.inr (by decide)) (Or.inr (by decide)) (Or.inr (by decide)) (Or.inr (by decide))).trans pf0
  have pf1 := (yz9987.1 _ 28 (Or.inr (by decide)) (Or.inr (by decide)) (Or.inr (by decide)) (Or.inr (by decide)) (Or.inr (by decide)) (Or.inr (by decide))).trans pf1
  have pf2 := (yz9987.1 _ 29 (Or.inr (by decide)) (Or.inr (by decide)) (Or.inr (by decide)) (Or.inr (by decide)) (Or.inr (by decide)) (Or.inr (by decide))).trans pf2
  have qfaz9986 := (yz9987.1 _ 13 (Or.inr (by decide)) (Or.inr (by decide)) (Or.inr (by decide)) (Or.inr (by decide)) (Or.inr (by decide)) (Or.inr (by decide))).trans qfaz9986
  have hfr : (∀ b j : Nat, (tag b ≠ 46 ∨ j ≠ 8) → (tag b ≠ 46 ∨ j ≠ 9) → (tag b ≠ 46 ∨ j ≠ 10) → (tag b ≠ 46 ∨ j ≠ 11) → (tag b ≠ 46 ∨ j ≠ 12) → (tag b ≠ 46 ∨ j ≠ 13) → (tag b ≠ 46 ∨ j ≠ 14) → (tag b ≠ 46 ∨ j ≠ 15) → fld F b j = fld Fo b j) ∧ (∀ b j : Nat, elm F b j = elm Fo b j) := ⟨fun b j n46_8 n46_9 n46_10 n46_11 n46_12 n46_13 n46_14 n46_15 => (yz9987.1 b j n46_8 n46_9 n46_10 n46_11 n46_12 n46_15).trans (hfr.1 b j n46_8 n46_9 n46_10 n46_11 n46_12 n46_13 n46_14 n46_15), fun b j  => (yz9987.2 b j ).trans (hfr.2 b j )⟩
  have hrel := msr_of (fun j => yz9987.2 _ j ) (fun j => yz9987.2 _ j ) hrel
  have hstk := STK.tr hstk stz9987
  have hspt := SPT.tr hspt ptz9987
  refine lv_iload_n hx hb dX13_readKnown_10 rfl (lv_at hl 0 rfl) ?_
  exact t_iret hQ X hT (⟨(by omega), hfr, hrel, ⟨soz9987, spz9987, faz9987, qsoz9987, qspz9987, qfaz9987, (by omega), (by omega), (by omega), hstk, hspt, hkf⟩⟩) (Nat.le_of_ble_eq_true rfl) (Nat.le_of_ble_eq_true rfl) dX13_readKnown_11
set_option maxHeartbeats 4000000 in
set_option maxRecDepth 100000 in
theorem km24_X13_bit (l : Launch) (G : KG) (tag : Nat → Nat) (L : List Nat) (F : Nat → va_E) (ho : okT G ttC tag L F) (p0 : Int32) (p1 : Int32)  : TMi l yX13_bit cX13_bit 2 (some .boolean) { frames := 0, cells := 0, slots := 0, locals := 0 } G ttC tag L F [.int p0, .int p1] (fun r F1 => F1 = F ∧ (0 ≤ r.toInt ∧ r.toInt ≤ 1)) := by
  refine t_bodyi (y := yX13_bit) (cd := cX13_bit) (mL := 2) (rt := (some .boolean)) (rm := { frames := 0, cells := 0, slots := 0, locals := 0 }) (av := [.int p0, .int p1]) (by decide) (Nat.le_of_ble_eq_true rfl) ho ?_
  intro p e s m args below meth c ls A Q hQ X hT hl
  have hx := X.1.1
  have hb := X.1.2.1
  have hl : lv_has ls 2 [(0, .int p0), (1, .int p1)] := hl
  have rp0 := rg_all p0
  have rp1 := rg_all p1
  refine lv_iload_n hx hb dX13_bit_0 rfl (lv_at hl 0 rfl) ?_
  refine lv_iload_n hx hb dX13_bit_1 rfl (lv_at hl 1 rfl) ?_
  refine lv_ishr hx hb dX13_bit_2 ?_
  refine lv_topi (fun z10057 ez10057 => ?_)
  have rz10057 := rg_all z10057
  refine lv_iconst (v := 1) hx hb dX13_bit_3 (by decide) ?_
  refine lv_iand hx hb dX13_bit_4 ?_
  refine lv_topi (fun z10058 ez10058 => ?_)
  have rz10058 : 0 ≤ z10058.toInt ∧ z10058.toInt ≤ 1 := ar_and ez10058 1 (by decide) (by decide)
  refine lv_iconst (v := 1) hx hb dX13_bit_5 (by decide) ?_
  refine lv_icmp_ne (tgt := 13) hx hb dX13_bit_6 (by decide) (fun c10059 => ?_) (fun c10059 => ?_)
  · have w10060 := cv_ne (rfl : z10058.toInt = z10058.toInt) (by decide : (1 : Int32).toInt = 1) c10059
    refine lv_iconst (v := 0) hx hb dX13_bit_13 (by decide) ?_
    have k10061 : (0 : Int32).toInt = 0 := by decide
    exact t_zret hQ X hT (by decide) (⟨rfl, (by decide)⟩) (Nat.le_of_ble_eq_true rfl) (Nat.le_of_ble_eq_true rfl) dX13_bit_14
  · have w10062 := cv_eq (rfl : z10058.toInt = z10058.toInt) (by decide : (1 : Int32).toInt = 1) c10059
    refine lv_iconst (v := 1) hx hb dX13_bit_9 (by decide) ?_
    refine lv_goto (tgt := 14) hx hb dX13_bit_10 (by decide) ?_
    have k10063 : (1 : Int32).toInt = 1 := by decide
    exact t_zret hQ X hT (by decide) (⟨rfl, (by decide)⟩) (Nat.le_of_ble_eq_true rfl) (Nat.le_of_ble_eq_true rfl) dX13_bit_14
set_option maxHeartbeats 4000000 in
set_option maxRecDepth 100000 in
theorem km25_X13_readOlder (l : Launch) (G : KG) (tag : Nat → Nat) (L : List Nat) (Fo : Nat → va_E) (ho : okT G ttC tag L Fo) (p0 : Nat) (x0 : Nat) (x1 : Nat) (x2 : Nat) (x3 : Int32) (x4 : Int32) (x5 : Int32) (m0 : p0 ∈ L) (g0 : tag p0 = 46) (mx0 : x0 ∈ L) (gx0 : tag x0 = 44) (pf0 : fld Fo p0 4 = .ref x0) (mx1 : x1 ∈ L) (gx1 : tag x1 = 35) (pf1 : fld Fo x0 28 = .ref x1) (mx2 : x2 ∈ L) (gx2 : tag x2 = 36) (pf2 : fld Fo x0 29 = .ref x2) (hx3 : 0 ≤ x3.toInt ∧ x3.toInt ≤ 5) (pf3 : fld Fo p0 9 = .int x3) (hx4 : 0 ≤ x4.toInt ∧ x4.toInt ≤ 1000) (pf4 : fld Fo p0 8 = .int x4) (hx5 : 0 ≤ x5.toInt ∧ x5.toInt ≤ 7) (pf5 : fld Fo p0 13 = .int x5) (hrel : MSR Fo x1 x2) (hkf : KF x3 x5) : TMv l yX13_readOlder cX13_readOlder 3 { frames := 9, cells := 0, slots := 0, locals := 193 } G ttC tag L Fo [.ref p0] (fun F1 => ((∀ b j : Nat, (tag b ≠ 44 ∨ j ≠ 11) → (tag b ≠ 46 ∨ j ≠ 8) → (tag b ≠ 46 ∨ j ≠ 9) → (tag b ≠ 46 ∨ j ≠ 10) → (tag b ≠ 46 ∨ j ≠ 11) → (tag b ≠ 46 ∨ j ≠ 12) → (tag b ≠ 46 ∨ j ≠ 13) → (tag b ≠ 46 ∨ j ≠ 14) → (tag b ≠ 46 ∨ j ≠ 15) → fld F1 b j = fld Fo b j) ∧ (∀ b j : Nat, tag b ≠ 33 → elm F1 b j = elm Fo b j)) ∧ (MSR F1 x1 x2) ∧ (∃ so sp fa : Int32, fld F1 p0 9 = .int so ∧ fld F1 p0 8 = .int sp ∧ fld F1 p0 13 = .int fa ∧ (0 ≤ so.toInt ∧ so.toInt ≤ 5) ∧ (0 ≤ sp.toInt ∧ sp.toInt ≤ 1000) ∧ (0 ≤ fa.toInt ∧ fa.toInt ≤ 7) ∧ STK x3 so ∧ SPT x3 x4 so sp ∧ KF so fa)) := by
  refine t_bodyv (y := yX13_readOlder) (cd := cX13_readOlder) (mL := 3) (rm := { frames := 9, cells := 0, slots := 0, locals := 193 }) (av := [.ref p0]) (by decide) (Nat.le_of_ble_eq_true rfl) ho ?_
  intro p e s m args below meth c ls A Q hQ X hT hl
  have hx := X.1.1
  have hb := X.1.2.1
  have hl : lv_has ls 3 [(0, .ref p0)] := hl
  obtain ⟨F, hFo⟩ : ∃ F : Nat → va_E, F = Fo := ⟨_, rfl⟩
  rw [← hFo] at hT pf0 pf1 pf2 pf3 pf4 pf5 hrel
  have hfr : (∀ b j : Nat, (tag b ≠ 44 ∨ j ≠ 11) → (tag b ≠ 46 ∨ j ≠ 8) → (tag b ≠ 46 ∨ j ≠ 9) → (tag b ≠ 46 ∨ j ≠ 10) → (tag b ≠ 46 ∨ j ≠ 11) → (tag b ≠ 46 ∨ j ≠ 12) → (tag b ≠ 46 ∨ j ≠ 13) → (tag b ≠ 46 ∨ j ≠ 14) → (tag b ≠ 46 ∨ j ≠ 15) → fld F b j = fld Fo b j) ∧ (∀ b j : Nat, tag b ≠ 33 → elm F b j = elm Fo b j) := by
    rw [hFo]
    exact ⟨by intros; rfl, by intros; rfl⟩
  have hstk : STK x3 x3 := STK.rf
  have hspt : SPT x3 x4 x3 x4 := SPT.rf
  have K75 : ∀ (z10572 : Int32) (z10573 : Int32) (z10574 : Int32) (z10575 : Int32) (z10576 : Int32) (z10577 : Int32) (z10578 : Int32) (F : Nat → va_E) (H : Heap) (locs : List Loc) (ls : Array Slot), (0 ≤ z10572.toInt ∧ z10572.toInt ≤ 5) → (0 ≤ z10573.toInt ∧ z10573.toInt ≤ 5) → (0 ≤ z10575.toInt ∧ z10575.toInt ≤ 12) → (0 ≤ z10576.toInt ∧ z10576.toInt ≤ 1000) → (0 ≤ z10577.toInt ∧ z10577.toInt ≤ 5) → (0 ≤ z10578.toInt ∧ z10578.toInt ≤ 7) → TH G ttC A s tag L F H locs → ((∀ b j : Nat, (tag b ≠ 44 ∨ j ≠ 11) → (tag b ≠ 46 ∨ j ≠ 8) → (tag b ≠ 46 ∨ j ≠ 9) → (tag b ≠ 46 ∨ j ≠ 10) → (tag b ≠ 46 ∨ j ≠ 11) → (tag b ≠ 46 ∨ j ≠ 12) → (tag b ≠ 46 ∨ j ≠ 13) → (tag b ≠ 46 ∨ j ≠ 14) → (tag b ≠ 46 ∨ j ≠ 15) → fld F b j = fld Fo b j) ∧ (∀ b j : Nat, tag b ≠ 33 → elm F b j = elm Fo b j)) → MSR F x1 x2 → (fld F p0 4 = .ref x0) → (fld F x0 28 = .ref x1) → (fld F x0 29 = .ref x2) → (fld F x0 11 = .int z10574) → (fld F x0 0 = .int z10575) → (fld F p0 8 = .int z10576) → (fld F p0 9 = .int z10577) → (fld F p0 13 = .int z10578) → (STK x3 z10577) → (SPT x3 x4 z10577 z10576) → (KF z10577 z10578) → lv_has ls 3 [(0, .ref p0), (1, .int z10572), (2, .int z10573)] → W p l e { frames := 9, cells := 0, slots := 0, locals := 193 } s m args below meth c H locs 0 0 Q (F0 m 75 ls []) := by
    intro z10572 z10573 z10574 z10575 z10576 z10577 z10578 F H locs ls rz10572 rz10573 rz10575 rz10576 rz10577 rz10578 hT hfr hrel pf0 pf1 pf2 qz10574 qz10575 qz10576 qz10577 qz10578 hstk hspt hkf hl
    have rz10574 := rg_all z10574
    refine lv_aload_n hx hb dX13_readOlder_75 rfl (lv_at hl 0 rfl) ?_
    refine t_cVv (n := 0) (C := RX13) (T := TX13) (N := 37) (As := []) (rest := []) X hT (km14_X13_goesOn l G tag L F hT.2.2.2 p0 x0 x1 x2 z10577 z10576 z10578 m0 g0 mx0 gx0 pf0 mx1 gx1 pf1 mx2 gx2 pf2 (by omega) qz10577 (by omega) qz10576 (by omega) qz10578 hkf) m0 g0 rfl rfl qw_508 qw_509 qw_510 qw_5 qw_511 ⟨rfl, by decide +kernel, by decide +kernel, by decide +kernel⟩ ⟨Nat.le_of_ble_eq_true rfl, Nat.le_of_ble_eq_true rfl⟩ hl rfl rfl (Nat.le_of_ble_eq_true rfl) dX13_readOlder_76 ⟨Nat.le_of_ble_eq_true rfl, Nat.le_of_ble_eq_true rfl⟩ (fun F H locs hT hz10579 => ?_)
    obtain ⟨yz10579, ⟨soz10579, spz10579, faz10579, qsoz10579, qspz10579, qfaz10579, rsoz10579, rspz10579, rfaz10579, stz10579, ptz10579, hkf⟩⟩ := hz10579
    have qz10574 := (yz10579.1 _ 11 (Or.inr (by decide)) (Or.inr (by decide)) (Or.inr (by decide)) (Or.inl (by rw [gx0]; decide)) (Or.inr (by decide)) (Or.inr (by decide))).trans qz10574
    have qz10575 := (yz10579.1 _ 0 (Or.inr (by decide)) (Or.inr (by decide)) (Or.inr (by decide)) (Or.inr (by decide)) (Or.inr (by decide)) (Or.inr (by decide))).trans qz10575
    have qz10578 := (yz10579.1 _ 13 (Or.inr (by decide)) (Or.inr (by decide)) (Or.inr (by decide)) (Or.inr (by decide)) (Or.inr (by decide)) (Or.inr (by decide))).trans qz10578
    have pf0 := (yz10579.1 _ 4 (Or.inr (by decide)) (Or.inr (by decide)) (Or.inr (by decide)) (Or.inr (by decide)) (Or.inr (by decide)) (Or.inr (by decide))).trans pf0
    have pf1 := (yz10579.1 _ 28 (Or.inr (by decide)) (Or.inr (by decide)) (Or.inr (by decide)) (Or.inr (by decide)) (Or.inr (by decide)) (Or.inr (by decide))).trans pf1
    have pf2 := (yz10579.1 _ 29 (Or.inr (by decide)) (Or.inr (by decide)) (Or.inr (by decide)) (Or.inr (by decide)) (Or.inr (by decide)) (Or.inr (by decide))).trans pf2
    have hfr : (∀ b j : Nat, (tag b ≠ 44 ∨ j ≠ 11) → (tag b ≠ 46 ∨ j ≠ 8) → (tag b ≠ 46 ∨ j ≠ 9) → (tag b ≠ 46 ∨ j ≠ 10) → (tag b ≠ 46 ∨ j ≠ 11) → (tag b ≠ 46 ∨ j ≠ 12) → (tag b ≠ 46 ∨ j ≠ 13) → (tag b ≠ 46 ∨ j ≠ 14) → (tag b ≠ 46 ∨ j ≠ 15) → fld F b j = fld Fo b j) ∧ (∀ b j : Nat, tag b ≠ 33 → elm F b j = elm Fo b j) := ⟨fun b j n44_11 n46_8 n46_9 n46_10 n46_11 n46_12 n46_13 n46_14 n46_15 => (yz10579.1 b j n46_8 n46_9 n46_10 n46_11 n46_12 n46_15).trans (hfr.1 b j n44_11 n46_8 n46_9 n46_10 n46_11 n46_12 n46_13 n46_14 n46_15), fun b j a33 => (yz10579.2 b j ).trans (hfr.2 b j a33)⟩
    have hrel := msr_of (fun j => yz10579.2 _ j ) (fun j => yz10579.2 _ j ) hrel
    have hstk := STK.tr hstk stz10579
    have hspt := SPT.tr hspt ptz10579
    refine lv_aload_n hx hb dX13_readOlder_79 rfl (lv_at hl 0 rfl) ?_
    refine t_get (C := RX13) (T := TX13) (N := 37) X hT m0 g0 rfl rfl 9 (by decide) qw_478 inlX13 rfl dX13_readOlder_80 (fun v10580 hv10580 ov10580 => ?_)
    obtain rfl : v10580 = .int soz10579 := hv10580.symm.trans qsoz10579
    refine lv_iconst (v := 5) hx hb dX13_readOlder_83 (by decide) ?_
    refine lv_icmp_ne (tgt := 88) hx hb dX13_readOlder_84 (by decide) (fun c10581 => ?_) (fun c10581 => ?_)
    · have w10582 := cv_ne (rfl : soz10579.toInt = soz10579.toInt) (by decide : (5 : Int32).toInt = 5) c10581
      refine lv_aload_n hx hb dX13_readOlder_88 rfl (lv_at hl 0 rfl) ?_
      refine t_get (C := RX13) (T := TX13) (N := 37) X hT m0 g0 rfl rfl 4 (by decide) qw_477 inlX13 rfl dX13_readOlder_89 (fun v10583 hv10583 ov10583 => ?_)
      obtain rfl : v10583 = .ref x0 := hv10583.symm.trans pf0
      refine t_getN (C := RX12) (T := TX12) (N := 31) X hT mx0 gx0 rfl rfl 24 (by decide) (List.mem_of_getElem? (i := 28) rfl) inlX12 rfl dX13_readOlder_92 (fun v10584 hv10584 ov10584 => ?_)
      obtain ⟨b10585, rfl, mb10585, gb10585⟩ := okV_r ov10584
      have gb10585 : tag b10585 = 33 := tg_of gb10585
      refine lv_iload_n hx hb dX13_readOlder_95 rfl (lv_at hl 1 rfl) ?_
      refine lv_dup2_11 hx hb dX13_readOlder_96 rfl rfl ?_
      refine t_ild X hT mb10585 gb10585 rfl (by omega) dX13_readOlder_97 (fun z10586 vz10586 rz10586 => ?_)
      have rz10586 : (-2147483648) ≤ z10586.toInt ∧ z10586.toInt ≤ 2147483647 := rz10586
      refine lv_iconst (v := 1) hx hb dX13_readOlder_98 (by decide) ?_
      refine lv_iload_n hx hb dX13_readOlder_99 rfl (lv_at hl 2 rfl) ?_
      refine lv_ishl hx hb dX13_readOlder_100 ?_
      refine lv_topi (fun z10587 ez10587 => ?_)
      have hz10587 := ar_shl3 ez10587 (by omega)
      have rz10587 : 1 ≤ z10587.toInt ∧ z10587.toInt ≤ 32 := by omega
      refine lv_ior hx hb dX13_readOlder_101 ?_
      refine lv_topi (fun z10588 ez10588 => ?_)
      have rz10588 := rg_all z10588
      refine t_ist X hT mb10585 gb10585 rfl (by omega) (show (-2147483648) ≤ (z10588 : Int32).toInt ∧ (z10588 : Int32).toInt ≤ 2147483647 from (rg_all _)) dX13_readOlder_102 (fun F H locs hT v10589 h1v10589 h2v10589 => ?_)
      have qz10574 := (h2v10589 _ _).trans qz10574
      have qz10575 := (h2v10589 _ _).trans qz10575
      have qfaz10579 := (h2v10589 _ _).trans qfaz10579
      have pf0 := (h2v10589 _ _).trans pf0
      have pf1 := (h2v10589 _ _).trans pf1
      have pf2 := (h2v10589 _ _).trans pf2
      have qsoz10579 := (h2v10589 _ _).trans qsoz10579
      have qspz10579 := (h2v10589 _ _).trans qspz10579
      have hv10584 := (h2v10589 _ _).trans hv10584
      have hfr : (∀ b j : Nat, (tag b ≠ 44 ∨ j ≠ 11) → (tag b ≠ 46 ∨ j ≠ 8) → (tag b ≠ 46 ∨ j ≠ 9) → (tag b ≠ 46 ∨ j ≠ 10) → (tag b ≠ 46 ∨ j ≠ 11) → (tag b ≠ 46 ∨ j ≠ 12) → (tag b ≠ 46 ∨ j ≠ 13) → (tag b ≠ 46 ∨ j ≠ 14) → (tag b ≠ 46 ∨ j ≠ 15) → fld F b j = fld Fo b j) ∧ (∀ b j : Nat, tag b ≠ 33 → elm F b j = elm Fo b j) := ⟨fun b j n44_11 n46_8 n46_9 n46_10 n46_11 n46_12 n46_13 n46_14 n46_15 => (h2v10589 b j).trans (hfr.1 b j n44_11 n46_8 n46_9 n46_10 n46_11 n46_12 n46_13 n46_14 n46_15), fun b j a33 => (h1v10589 b j (Or.inl (at_ne gb10585 a33))).trans (hfr.2 b j a33)⟩
      have hrel := msr_of (fun j => h1v10589 _ j (Or.inl (tne gx1 gb10585 (by decide)))) (fun j => h1v10589 _ j (Or.inl (tne gx2 gb10585 (by decide)))) hrel
      refine lv_aload_n hx hb dX13_readOlder_103 rfl (lv_at hl 0 rfl) ?_
      refine t_get (C := RX13) (T := TX13) (N := 37) X hT m0 g0 rfl rfl 4 (by decide) qw_477 inlX13 rfl dX13_readOlder_104 (fun v10590 hv10590 ov10590 => ?_)
      obtain rfl : v10590 = .ref x0 := hv10590.symm.trans pf0
      refine lv_dup hx hb dX13_readOlder_107 rfl ?_
      refine t_getN (C := RX12) (T := TX12) (N := 31) X hT mx0 gx0 rfl rfl 11 (by decide) (List.mem_of_getElem? (i := 15) rfl) inlX12 rfl dX13_readOlder_108 (fun v10591 hv10591 ov10591 => ?_)
      obtain rfl : v10591 = .int z10574 := hv10591.symm.trans qz10574
      refine lv_iconst (v := 1) hx hb dX13_readOlder_111 (by decide) ?_
      refine lv_iadd hx hb dX13_readOlder_112 ?_
      refine lv_topi (fun z10592 ez10592 => ?_)
      have rz10592 := rg_all z10592
      refine t_putN (C := RX12) (T := TX12) (N := 31) (v := .int z10592) X hT mx0 gx0 rfl tyX12 tyX12_ok nmX12 rfl 11 (by decide) (List.mem_of_getElem? (i := 15) rfl) inlX12 rfl (by first | rfl | decide) (by first | rfl | decide) rfl (⟨_, rfl, (show (-2147483648) ≤ (z10592 : Int32).toInt from (by omega)), (show (z10592 : Int32).toInt ≤ 2147483647 from (by omega))⟩) dX13_readOlder_113 (fun F H locs hT v10593 h1v10593 h2v10593 => ?_)
      have qz10575 := (h1v10593 _ _ (Or.inr (by decide))).trans qz10575
      have qfaz10579 := (h1v10593 _ _ (Or.inr (by decide))).trans qfaz10579
      have pf0 := (h1v10593 _ _ (Or.inr (by decide))).trans pf0
      have pf1 := (h1v10593 _ _ (Or.inr (by decide))).trans pf1
      have pf2 := (h1v10593 _ _ (Or.inr (by decide))).trans pf2
      have qsoz10579 := (h1v10593 _ _ (Or.inr (by decide))).trans qsoz10579
      have qspz10579 := (h1v10593 _ _ (Or.inr (by decide))).trans qspz10579
      have hv10584 := (h1v10593 _ _ (Or.inr (by decide))).trans hv10584
      have v10589 := (h2v10593 _ _).trans v10589
      have hfr : (∀ b j : Nat, (tag b ≠ 44 ∨ j ≠ 11) → (tag b ≠ 46 ∨ j ≠ 8) → (tag b ≠ 46 ∨ j ≠ 9) → (tag b ≠ 46 ∨ j ≠ 10) → (tag b ≠ 46 ∨ j ≠ 11) → (tag b ≠ 46 ∨ j ≠ 12) → (tag b ≠ 46 ∨ j ≠ 13) → (tag b ≠ 46 ∨ j ≠ 14) → (tag b ≠ 46 ∨ j ≠ 15) → fld F b j = fld Fo b j) ∧ (∀ b j : Nat, tag b ≠ 33 → elm F b j = elm Fo b j) := ⟨fun b j n44_11 n46_8 n46_9 n46_10 n46_11 n46_12 n46_13 n46_14 n46_15 => (h1v10593 b j (fr_ne gx0 n44_11)).trans (hfr.1 b j n44_11 n46_8 n46_9 n46_10 n46_11 n46_12 n46_13 n46_14 n46_15), fun b j a33 => (h2v10593 b j).trans (hfr.2 b j a33)⟩
      have hrel := msr_of (fun j => h2v10593 _ j) (fun j => h2v10593 _ j) hrel
      exact t_vret hQ X hT ⟨hfr, hrel, ⟨soz10579, spz10579, faz10579, qsoz10579, qspz10579, qfaz10579, (by omega), (by omega), (by omega), hstk, hspt, hkf⟩⟩ (Nat.le_of_ble_eq_true rfl) (Nat.le_of_ble_eq_true rfl) dX13_readOlder_116
    · have w10594 := cv_eq (rfl : soz10579.toInt = soz10579.toInt) (by decide : (5 : Int32).toInt = 5) c10581
      exact t_vret hQ X hT ⟨hfr, hrel, ⟨soz10579, spz10579, faz10579, qsoz10579, qspz10579, qfaz10579, (by omega), (by omega), (by omega), hstk, hspt, hkf⟩⟩ (Nat.le_of_ble_eq_true rfl) (Nat.le_of_ble_eq_true rfl) dX13_readOlder_87
  have K70 : ∀ (z10595 : Int32) (z10596 : Int32) (z10597 : Int32) (z10598 : Int32) (z10599 : Int32) (z10600 : Int32) (z10601 : Int32) (F : Nat → va_E) (H : Heap) (locs : List Loc) (ls : Array Slot), (0 ≤ z10595.toInt ∧ z10595.toInt ≤ 5) → (0 ≤ z10596.toInt ∧ z10596.toInt ≤ 5) → (1 ≤ z10598.toInt ∧ z10598.toInt ≤ 12) → (0 ≤ z10599.toInt ∧ z10599.toInt ≤ 1000) → (0 ≤ z10600.toInt ∧ z10600.toInt ≤ 4) → (0 ≤ z10601.toInt ∧ z10601.toInt ≤ 7) → TH G ttC A s tag L F H locs → ((∀ b j : Nat, (tag b ≠ 44 ∨ j ≠ 11) → (tag b ≠ 46 ∨ j ≠ 8) → (tag b ≠ 46 ∨ j ≠ 9) → (tag b ≠ 46 ∨ j ≠ 10) → (tag b ≠ 46 ∨ j ≠ 11) → (tag b ≠ 46 ∨ j ≠ 12) → (tag b ≠ 46 ∨ j ≠ 13) → (tag b ≠ 46 ∨ j ≠ 14) → (tag b ≠ 46 ∨ j ≠ 15) → fld F b j = fld Fo b j) ∧ (∀ b j : Nat, tag b ≠ 33 → elm F b j = elm Fo b j)) → MSR F x1 x2 → (fld F p0 4 = .ref x0) → (fld F x0 28 = .ref x1) → (fld F x0 29 = .ref x2) → (fld F x0 11 = .int z10597) → (fld F x0 0 = .int z10598) → (fld F p0 8 = .int z10599) → (fld F p0 9 = .int z10600) → (fld F p0 13 = .int z10601) → (STK x3 z10600) → (SPT x3 x4 z10600 z10599) → (KF z10600 z10601) → lv_has ls 3 [(0, .ref p0), (1, .int z10595), (2, .int z10596)] → W p l e { frames := 9, cells := 0, slots := 0, locals := 193 } s m args below meth c H locs 0 0 Q (F0 m 70 ls []) := by
    intro z10595 z10596 z10597 z10598 z10599 z10600 z10601 F H locs ls rz10595 rz10596 rz10598 rz10599 rz10600 rz10601 hT hfr hrel pf0 pf1 pf2 qz10597 qz10598 qz10599 qz10600 qz10601 hstk hspt hkf hl
    have rz10597 := rg_all z10597
    refine lv_aload_n hx hb dX13_readOlder_70 rfl (lv_at hl 0 rfl) ?_
    refine lv_iconst (v := 3) hx hb dX13_readOlder_71 (by decide) ?_
    refine t_cVv (n := 1) (C := RX13) (T := TX13) (N := 37) (As := [.int 3]) (rest := []) X hT (km10_X13_flaw l G tag L F hT.2.2.2 p0 3 x0 x1 x2 z10600 z10599 z10601 m0 g0 (by decide) mx0 gx0 pf0 mx1 gx1 pf1 mx2 gx2 pf2 (by omega) qz10600 (by omega) qz10599 (by omega) qz10601 hkf) m0 g0 rfl rfl qw_548 qw_549 qw_550 qw_5 qw_551 ⟨rfl, by decide +kernel, by decide +kernel, by decide +kernel⟩ ⟨Nat.le_of_ble_eq_true rfl, Nat.le_of_ble_eq_true rfl⟩ hl rfl rfl (Nat.le_of_ble_eq_true rfl) dX13_readOlder_72 ⟨Nat.le_of_ble_eq_true rfl, Nat.le_of_ble_eq_true rfl⟩ (fun F H locs hT hz10602 => ?_)
    obtain ⟨yz10602, ⟨soz10602, spz10602, faz10602, qsoz10602, qspz10602, qfaz10602, rsoz10602, rspz10602, rfaz10602, stz10602, ptz10602, hkf, pxz10602_0⟩⟩ := hz10602
    have qz10597 := (yz10602.1 _ 11 (Or.inr (by decide)) (Or.inr (by decide)) (Or.inr (by decide))).trans qz10597
    have qz10598 := (yz10602.1 _ 0 (Or.inr (by decide)) (Or.inr (by decide)) (Or.inr (by decide))).trans qz10598
    have qz10599 := (yz10602.1 _ 8 (Or.inr (by decide)) (Or.inr (by decide)) (Or.inr (by decide))).trans qz10599
    have pf0 := (yz10602.1 _ 4 (Or.inr (by decide)) (Or.inr (by decide)) (Or.inr (by decide))).trans pf0
    have pf1 := (yz10602.1 _ 28 (Or.inr (by decide)) (Or.inr (by decide)) (Or.inr (by decide))).trans pf1
    have pf2 := (yz10602.1 _ 29 (Or.inr (by decide)) (Or.inr (by decide)) (Or.inr (by decide))).trans pf2
    have hfr : (∀ b j : Nat, (tag b ≠ 44 ∨ j ≠ 11) → (tag b ≠ 46 ∨ j ≠ 8) → (tag b ≠ 46 ∨ j ≠ 9) → (tag b ≠ 46 ∨ j ≠ 10) → (tag b ≠ 46 ∨ j ≠ 11) → (tag b ≠ 46 ∨ j ≠ 12) → (tag b ≠ 46 ∨ j ≠ 13) → (tag b ≠ 46 ∨ j ≠ 14) → (tag b ≠ 46 ∨ j ≠ 15) → fld F b j = fld Fo b j) ∧ (∀ b j : Nat, tag b ≠ 33 → elm F b j = elm Fo b j) := ⟨fun b j n44_11 n46_8 n46_9 n46_10 n46_11 n46_12 n46_13 n46_14 n46_15 => (yz10602.1 b j n46_9 n46_13 n46_14).trans (hfr.1 b j n44_11 n46_8 n46_9 n46_10 n46_11 n46_12 n46_13 n46_14 n46_15), fun b j a33 => (yz10602.2 b j ).trans (hfr.2 b j a33)⟩
    have hrel := msr_of (fun j => yz10602.2 _ j ) (fun j => yz10602.2 _ j ) hrel
    have hstk := STK.tr hstk stz10602
    have hspt := SPT.tr hspt ptz10602
    exact K75 z10595 z10596 z10597 z10598 spz10602 soz10602 faz10602 _ _ _ _ (by omega) (by omega) (by omega) (by omega) (by omega) (by omega) hT hfr hrel pf0 pf1 pf2 qz10597 qz10598 qspz10602 qsoz10602 qfaz10602 hstk hspt hkf (lv_sub hl [0, 1, 2] rfl)
  refine lv_aload_n hx hb dX13_readOlder_0 rfl (lv_at hl 0 rfl) ?_
  refine lv_aload_n hx hb dX13_readOlder_1 rfl (lv_at hl 0 rfl) ?_
  refine t_get (C := RX13) (T := TX13) (N := 37) X hT m0 g0 rfl rfl 4 (by decide) qw_477 inlX13 rfl dX13_readOlder_2 (fun v10603 hv10603 ov10603 => ?_)
  obtain rfl : v10603 = .ref x0 := hv10603.symm.trans pf0
  refine t_getN (C := RX12) (T := TX12) (N := 31) X hT mx0 gx0 rfl rfl 11 (by decide) (List.mem_of_getElem? (i := 15) rfl) inlX12 rfl dX13_readOlder_5 (fun v10604 hv10604 ov10604 => ?_)
  obtain ⟨z10605, rfl, rz10605⟩ := okV_i ov10604
  refine lv_bipush (v := 8) hx hb dX13_readOlder_8 (by decide) ?_
  obtain ⟨z10606, qz10606, rz10606⟩ := t_fld hT mx0 gx0 rfl 0 rfl
  have rz10606 : 0 ≤ z10606.toInt ∧ z10606.toInt ≤ 12 := rz10606
  refine t_cVv (n := 2) (C := RX13) (T := TX13) (N := 37) (As := [.int z10605, .int 8]) (rest := []) X hT (km15_X13_begins l G tag L F hT.2.2.2 p0 z10605 8 x0 x1 x2 x3 x4 x5 z10606 m0 g0 mx0 gx0 pf0 mx1 gx1 pf1 mx2 gx2 pf2 (by omega) pf3 (by omega) pf4 (by omega) pf5 (by omega) qz10606 hkf) m0 g0 rfl rfl qw_575 qw_576 qw_577 qw_5 qw_578 ⟨rfl, by decide +kernel, by decide +kernel, by decide +kernel⟩ ⟨Nat.le_of_ble_eq_true rfl, Nat.le_of_ble_eq_true rfl⟩ hl rfl rfl (Nat.le_of_ble_eq_true rfl) dX13_readOlder_10 ⟨Nat.le_of_ble_eq_true rfl, Nat.le_of_ble_eq_true rfl⟩ (fun F H locs hT hz10607 => ?_)
  obtain ⟨yz10607, ⟨soz10607, spz10607, faz10607, qsoz10607, qspz10607, qfaz10607, rsoz10607, rspz10607, rfaz10607, stz10607, ptz10607, hkf, pxz10607_0⟩⟩ := hz10607
  have pf0 := (yz10607.1 _ 4 (Or.inr (by decide)) (Or.inr (by decide)) (Or.inr (by decide)) (Or.inr (by decide)) (Or.inr (by decide)) (Or.inr (by decide)) (Or.inr (by decide)) (Or.inr (by decide))).trans pf0
  have pf1 := (yz10607.1 _ 28 (Or.inr (by decide)) (Or.inr (by decide)) (Or.inr (by decide)) (Or.inr (by decide)) (Or.inr (by decide)) (Or.inr (by decide)) (Or.inr (by decide)) (Or.inr (by decide))).trans pf1
  have pf2 := (yz10607.1 _ 29 (Or.inr (by decide)) (Or.inr (by decide)) (Or.inr (by decide)) (Or.inr (by decide)) (Or.inr (by decide)) (Or.inr (by decide)) (Or.inr (by decide)) (Or.inr (by decide))).trans pf2
  have hv10604 := (yz10607.1 _ 11 (Or.inr (by decide)) (Or.inr (by decide)) (Or.inr (by decide)) (Or.inl (by rw [gx0]; decide)) (Or.inr (by decide)) (Or.inr (by decide)) (Or.inr (by decide)) (Or.inr (by decide))).trans hv10604
  have qz10606 := (yz10607.1 _ 0 (Or.inr (by decide)) (Or.inr (by decide)) (Or.inr (by decide)) (Or.inr (by decide)) (Or.inr (by decide)) (Or.inr (by decide)) (Or.inr (by decide)) (Or.inr (by decide))).trans qz10606
  have hfr : (∀ b j : Nat, (tag b ≠ 44 ∨ j ≠ 11) → (tag b ≠ 46 ∨ j ≠ 8) → (tag b ≠ 46 ∨ j ≠ 9) → (tag b ≠ 46 ∨ j ≠ 10) → (tag b ≠ 46 ∨ j ≠ 11) → (tag b ≠ 46 ∨ j ≠ 12) → (tag b ≠ 46 ∨ j ≠ 13) → (tag b ≠ 46 ∨ j ≠ 14) → (tag b ≠ 46 ∨ j ≠ 15) → fld F b j = fld Fo b j) ∧ (∀ b j : Nat, tag b ≠ 33 → elm F b j = elm Fo b j) := ⟨fun b j n44_11 n46_8 n46_9 n46_10 n46_11 n46_12 n46_13 n46_14 n46_15 => (yz10607.1 b j n46_8 n46_9 n46_10 n46_11 n46_12 n46_13 n46_14 n46_15).trans (hfr.1 b j n44_11 n46_8 n46_9 n46_10 n46_11 n46_12 n46_13 n46_14 n46_15), fun b j a33 => (yz10607.2 b j ).trans (hfr.2 b j a33)⟩
  have hrel := msr_of (fun j => yz10607.2 _ j ) (fun j => yz10607.2 _ j ) hrel
  have hstk := STK.tr hstk stz10607
  have hspt := SPT.tr hspt ptz10607
  have k10608 : (8 : Int32).toInt = 8 := by decide
  refine lv_aload_n hx hb dX13_readOlder_13 rfl (lv_at hl 0 rfl) ?_
  refine lv_iconst (v := 3) hx hb dX13_readOlder_14 (by decide) ?_
  refine t_cVi (n := 1) (C := RX13) (T := TX13) (N := 37) (As := [.int 3]) (rest := []) X hT (km23_X13_readKnown l G tag L F hT.2.2.2 p0 3 x0 x1 x2 soz10607 spz10607 faz10607 m0 g0 (by decide) mx0 gx0 pf0 mx1 gx1 pf1 mx2 gx2 pf2 (by omega) qsoz10607 (by omega) qspz10607 (by omega) qfaz10607 hrel hkf) m0 g0 rfl rfl qw_632 qw_633 qw_634 qw_5 qw_635 ⟨rfl, by decide +kernel, by decide +kernel, by decide +kernel⟩ ⟨Nat.le_of_ble_eq_true rfl, Nat.le_of_ble_eq_true rfl⟩ hl rfl rfl (Nat.le_of_ble_eq_true rfl) dX13_readOlder_15 ⟨Nat.le_of_ble_eq_true rfl, Nat.le_of_ble_eq_true rfl⟩ (fun z10609 F H locs hT hz10609 => ?_)
  obtain ⟨hz10609, yz10609, hrel, ⟨soz10609, spz10609, faz10609, qsoz10609, qspz10609, qfaz10609, rsoz10609, rspz10609, rfaz10609, stz10609, ptz10609, hkf⟩⟩ := hz10609
  have pf0 := (yz10609.1 _ 4 (Or.inr (by decide)) (Or.inr (by decide)) (Or.inr (by decide)) (Or.inr (by decide)) (Or.inr (by decide)) (Or.inr (by decide)) (Or.inr (by decide)) (Or.inr (by decide))).trans pf0
  have pf1 := (yz10609.1 _ 28 (Or.inr (by decide)) (Or.inr (by decide)) (Or.inr (by decide)) (Or.inr (by decide)) (Or.inr (by decide)) (Or.inr (by decide)) (Or.inr (by decide)) (Or.inr (by decide))).trans pf1
  have pf2 := (yz10609.1 _ 29 (Or.inr (by decide)) (Or.inr (by decide)) (Or.inr (by decide)) (Or.inr (by decide)) (Or.inr (by decide)) (Or.inr (by decide)) (Or.inr (by decide)) (Or.inr (by decide))).trans pf2
  have hv10604 := (yz10609.1 _ 11 (Or.inr (by decide)) (Or.inr (by decide)) (Or.inr (by decide)) (Or.inl (by rw [gx0]; decide)) (Or.inr (by decide)) (Or.inr (by decide)) (Or.inr (by decide)) (Or.inr (by decide))).trans hv10604
  have qz10606 := (yz10609.1 _ 0 (Or.inr (by decide)) (Or.inr (by decide)) (Or.inr (by decide)) (Or.inr (by decide)) (Or.inr (by decide)) (Or.inr (by decide)) (Or.inr (by decide)) (Or.inr (by decide))).trans qz10606
  have hfr : (∀ b j : Nat, (tag b ≠ 44 ∨ j ≠ 11) → (tag b ≠ 46 ∨ j ≠ 8) → (tag b ≠ 46 ∨ j ≠ 9) → (tag b ≠ 46 ∨ j ≠ 10) → (tag b ≠ 46 ∨ j ≠ 11) → (tag b ≠ 46 ∨ j ≠ 12) → (tag b ≠ 46 ∨ j ≠ 13) → (tag b ≠ 46 ∨ j ≠ 14) → (tag b ≠ 46 ∨ j ≠ 15) → fld F b j = fld Fo b j) ∧ (∀ b j : Nat, tag b ≠ 33 → elm F b j = elm Fo b j) := ⟨fun b j n44_11 n46_8 n46_9 n46_10 n46_11 n46_12 n46_13 n46_14 n46_15 => (yz10609.1 b j n46_8 n46_9 n46_10 n46_11 n46_12 n46_13 n46_14 n46_15).trans (hfr.1 b j n44_11 n46_8 n46_9 n46_10 n46_11 n46_12 n46_13 n46_14 n46_15), fun b j a33 => (yz10609.2 b j ).trans (hfr.2 b j a33)⟩
  have hstk := STK.tr hstk stz10609
  have hspt := SPT.tr hspt ptz10609
  refine lv_istore_n (lv' := [(1, .int z10609), (0, .ref p0)]) hx hb dX13_readOlder_18 rfl hl (by decide) rfl (fun ls hl => ?_)
  refine lv_aload_n hx hb dX13_readOlder_19 rfl (lv_at hl 1 rfl) ?_
  refine lv_iconst (v := 3) hx hb dX13_readOlder_20 (by decide) ?_
  refine t_cVi (n := 1) (C := RX13) (T := TX13) (N := 37) (As := [.int 3]) (rest := []) X hT (km18_X13_known l G tag L F hT.2.2.2 p0 3 x0 x1 x2 soz10609 spz10609 faz10609 m0 g0 (by decide) mx0 gx0 pf0 mx1 gx1 pf1 mx2 gx2 pf2 (by omega) qsoz10609 (by omega) qspz10609 (by omega) qfaz10609 hrel hkf) m0 g0 rfl rfl qw_636 qw_637 qw_638 qw_5 qw_639 ⟨rfl, by decide +kernel, by decide +kernel, by decide +kernel⟩ ⟨Nat.le_of_ble_eq_true rfl, Nat.le_of_ble_eq_true rfl⟩ hl rfl rfl (Nat.le_of_ble_eq_true rfl) dX13_readOlder_21 ⟨Nat.le_of_ble_eq_true rfl, Nat.le_of_ble_eq_true rfl⟩ (fun z10610 F H locs hT hz10610 => ?_)
  obtain ⟨hz10610, yz10610, hrel, ⟨soz10610, spz10610, faz10610, qsoz10610, qspz10610, qfaz10610, rsoz10610, rspz10610, rfaz10610, stz10610, ptz10610, hkf⟩⟩ := hz10610
  have pf0 := (yz10610.1 _ 4 (Or.inr (by decide)) (Or.inr (by decide)) (Or.inr (by decide))).trans pf0
  have pf1 := (yz10610.1 _ 28 (Or.inr (by decide)) (Or.inr (by decide)) (Or.inr (by decide))).trans pf1
  have pf2 := (yz10610.1 _ 29 (Or.inr (by decide)) (Or.inr (by decide)) (Or.inr (by decide))).trans pf2
  have hv10604 := (yz10610.1 _ 11 (Or.inr (by decide)) (Or.inr (by decide)) (Or.inr (by decide))).trans hv10604
  have qz10606 := (yz10610.1 _ 0 (Or.inr (by decide)) (Or.inr (by decide)) (Or.inr (by decide))).trans qz10606
  have qspz10609 := (yz10610.1 _ 8 (Or.inr (by decide)) (Or.inr (by decide)) (Or.inr (by decide))).trans qspz10609
  have hfr : (∀ b j : Nat, (tag b ≠ 44 ∨ j ≠ 11) → (tag b ≠ 46 ∨ j ≠ 8) → (tag b ≠ 46 ∨ j ≠ 9) → (tag b ≠ 46 ∨ j ≠ 10) → (tag b ≠ 46 ∨ j ≠ 11) → (tag b ≠ 46 ∨ j ≠ 12) → (tag b ≠ 46 ∨ j ≠ 13) → (tag b ≠ 46 ∨ j ≠ 14) → (tag b ≠ 46 ∨ j ≠ 15) → fld F b j = fld Fo b j) ∧ (∀ b j : Nat, tag b ≠ 33 → elm F b j = elm Fo b j) := ⟨fun b j n44_11 n46_8 n46_9 n46_10 n46_11 n46_12 n46_13 n46_14 n46_15 => (yz10610.1 b j n46_9 n46_13 n46_14).trans (hfr.1 b j n44_11 n46_8 n46_9 n46_10 n46_11 n46_12 n46_13 n46_14 n46_15), fun b j a33 => (yz10610.2 b j ).trans (hfr.2 b j a33)⟩
  have hstk := STK.tr hstk stz10610
  have hspt := SPT.tr hspt ptz10610
  refine lv_istore_n (lv' := [(2, .int z10610), (1, .int z10609), (0, .ref p0)]) hx hb dX13_readOlder_24 rfl hl (by decide) rfl (fun ls hl => ?_)
  refine lv_aload_n hx hb dX13_readOlder_25 rfl (lv_at hl 2 rfl) ?_
  refine t_get (C := RX13) (T := TX13) (N := 37) X hT m0 g0 rfl rfl 9 (by decide) qw_478 inlX13 rfl dX13_readOlder_26 (fun v10611 hv10611 ov10611 => ?_)
  obtain rfl : v10611 = .int soz10610 := hv10611.symm.trans qsoz10610
  refine lv_iconst (v := 5) hx hb dX13_readOlder_29 (by decide) ?_
  refine lv_icmp_eq (tgt := 75) hx hb dX13_readOlder_30 (by decide) (fun c10612 => ?_) (fun c10612 => ?_)
  · have w10613 := cv_eq (rfl : soz10610.toInt = soz10610.toInt) (by decide : (5 : Int32).toInt = 5) c10612
    exact K75 z10609 z10610 z10605 z10606 spz10610 soz10610 faz10610 _ _ _ _ (by omega) (by omega) (by omega) (by omega) (by omega) (by omega) hT hfr hrel pf0 pf1 pf2 hv10604 qz10606 qspz10610 qsoz10610 qfaz10610 hstk hspt hkf (lv_sub hl [2, 1, 0] rfl)
  · have w10614 := cv_ne (rfl : soz10610.toInt = soz10610.toInt) (by decide : (5 : Int32).toInt = 5) c10612
    have w10615 := (fun h9 => (fun h9 => pxz10607_0 (fun e9 => h9 (stz10609 e9))) (fun e9 => h9 (stz10610 e9))) (by omega)
    refine lv_iload_n hx hb dX13_readOlder_33 rfl (lv_at hl 1 rfl) ?_
    refine lv_iload_n hx hb dX13_readOlder_34 rfl (lv_at hl 0 rfl) ?_
    refine lv_icmp_eq (tgt := 70) hx hb dX13_readOlder_35 (by decide) (fun c10616 => ?_) (fun c10616 => ?_)
    · have w10617 := cv_eq (rfl : z10609.toInt = z10609.toInt) (rfl : z10610.toInt = z10610.toInt) c10616
      exact K70 z10609 z10610 z10605 z10606 spz10610 soz10610 faz10610 _ _ _ _ (by omega) (by omega) (by omega) (by omega) (by omega) (by omega) hT hfr hrel pf0 pf1 pf2 hv10604 qz10606 qspz10610 qsoz10610 qfaz10610 hstk hspt hkf (lv_sub hl [2, 1, 0] rfl)
    · have w10618 := cv_ne (rfl : z10609.toInt = z10609.toInt) (rfl : z10610.toInt = z10610.toInt) c10616
      refine lv_aload_n hx hb dX13_readOlder_38 rfl (lv_at hl 2 rfl) ?_
      refine t_get (C := RX13) (T := TX13) (N := 37) X hT m0 g0 rfl rfl 4 (by decide) qw_477 inlX13 rfl dX13_readOlder_39 (fun v10619 hv10619 ov10619 => ?_)
      obtain rfl : v10619 = .ref x0 := hv10619.symm.trans pf0
      refine t_getN (C := RX12) (T := TX12) (N := 31) X hT mx0 gx0 rfl rfl 24 (by decide) (List.mem_of_getElem? (i := 28) rfl) inlX12 rfl dX13_readOlder_42 (fun v10620 hv10620 ov10620 => ?_)
      obtain ⟨b10621, rfl, mb10621, gb10621⟩ := okV_r ov10620
      have gb10621 : tag b10621 = 33 := tg_of gb10621
      refine lv_iload_n hx hb dX13_readOlder_45 rfl (lv_at hl 1 rfl) ?_
      refine t_ild X hT mb10621 gb10621 rfl (by omega) dX13_readOlder_46 (fun z10622 vz10622 rz10622 => ?_)
      have rz10622 : (-2147483648) ≤ z10622.toInt ∧ z10622.toInt ≤ 2147483647 := rz10622
      refine lv_iload_n hx hb dX13_readOlder_47 rfl (lv_at hl 0 rfl) ?_
      refine t_cSi (n := 2) (As := [.int z10622, .int z10610]) (rest := []) X hT (km24_X13_bit l G tag L F hT.2.2.2 z10622 z10610 ) qw_676 qw_677 qw_5 qw_678 ⟨by decide +kernel, by decide +kernel, by decide +kernel⟩ ⟨Nat.le_of_ble_eq_true rfl, Nat.le_of_ble_eq_true rfl⟩ hl rfl rfl (Nat.le_of_ble_eq_true rfl) dX13_readOlder_48 ⟨Nat.le_of_ble_eq_true rfl, Nat.le_of_ble_eq_true rfl⟩ (fun z10623 F9 H locs hT hz10623 => ?_)
      obtain ⟨fz10623, hz10623⟩ := hz10623
      rw [fz10623] at hT
      refine lv_if_ne (tgt := 70) hx hb dX13_readOlder_51 (by decide) (fun c10624 => ?_) (fun c10624 => ?_)
      · have w10625 := cv_ne (rfl : z10623.toInt = z10623.toInt) (by decide : (0 : Int32).toInt = 0) c10624
        exact K70 z10609 z10610 z10605 z10606 spz10610 soz10610 faz10610 _ _ _ _ (by omega) (by omega) (by omega) (by omega) (by omega) (by omega) hT hfr hrel pf0 pf1 pf2 hv10604 qz10606 qspz10610 qsoz10610 qfaz10610 hstk hspt hkf (lv_sub hl [2, 1, 0] rfl)
      · have w10626 := cv_eq (rfl : z10623.toInt = z10623.toInt) (by decide : (0 : Int32).toInt = 0) c10624
        refine lv_aload_n hx hb dX13_readOlder_54 rfl (lv_at hl 2 rfl) ?_
        refine t_get (C := RX13) (T := TX13) (N := 37) X hT m0 g0 rfl rfl 4 (by decide) qw_477 inlX13 rfl dX13_readOlder_55 (fun v10627 hv10627 ov10627 => ?_)
        obtain rfl : v10627 = .ref x0 := hv10627.symm.trans pf0
        refine t_getN (C := RX12) (T := TX12) (N := 31) X hT mx0 gx0 rfl rfl 24 (by decide) (List.mem_of_getElem? (i := 28) rfl) inlX12 rfl dX13_readOlder_58 (fun v10628 hv10628 ov10628 => ?_)
        obtain rfl : v10628 = .ref b10621 := hv10628.symm.trans hv10620
        refine lv_iload_n hx hb dX13_readOlder_61 rfl (lv_at hl 0 rfl) ?_
        refine t_ild X hT mb10621 gb10621 rfl (by omega) dX13_readOlder_62 (fun z10629 vz10629 rz10629 => ?_)
        have rz10629 : (-2147483648) ≤ z10629.toInt ∧ z10629.toInt ≤ 2147483647 := rz10629
        refine lv_iload_n hx hb dX13_readOlder_63 rfl (lv_at hl 1 rfl) ?_
        refine t_cSi (n := 2) (As := [.int z10629, .int z10609]) (rest := []) X hT (km24_X13_bit l G tag L F hT.2.2.2 z10629 z10609 ) qw_676 qw_677 qw_5 qw_678 ⟨by decide +kernel, by decide +kernel, by decide +kernel⟩ ⟨Nat.le_of_ble_eq_true rfl, Nat.le_of_ble_eq_true rfl⟩ hl rfl rfl (Nat.le_of_ble_eq_true rfl) dX13_readOlder_64 ⟨Nat.le_of_ble_eq_true rfl, Nat.le_of_ble_eq_true rfl⟩ (fun z10630 F9 H locs hT hz10630 => ?_)
        obtain ⟨fz10630, hz10630⟩ := hz10630
        rw [fz10630] at hT
        refine lv_if_eq (tgt := 75) hx hb dX13_readOlder_67 (by decide) (fun c10631 => ?_) (fun c10631 => ?_)
        · have w10632 := cv_eq (rfl : z10630.toInt = z10630.toInt) (by decide : (0 : Int32).toInt = 0) c10631
          exact K75 z10609 z10610 z10605 z10606 spz10610 soz10610 faz10610 _ _ _ _ (by omega) (by omega) (by omega) (by omega) (by omega) (by omega) hT hfr hrel pf0 pf1 pf2 hv10604 qz10606 qspz10610 qsoz10610 qfaz10610 hstk hspt hkf (lv_sub hl [2, 1, 0] rfl)
        · have w10633 := cv_ne (rfl : z10630.toInt = z10630.toInt) (by decide : (0 : Int32).toInt = 0) c10631
          exact K70 z10609 z10610 z10605 z10606 spz10610 soz10610 faz10610 _ _ _ _ (by omega) (by omega) (by omega) (by omega) (by omega) (by omega) hT hfr hrel pf0 pf1 pf2 hv10604 qz10606 qspz10610 qsoz10610 qfaz10610 hstk hspt hkf (lv_sub hl [2, 1, 0] rfl)
