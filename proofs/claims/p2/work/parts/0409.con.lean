set_option maxHeartbeats 4000000 in
set_option maxRecDepth 100000 in
theorem km52_X13_bounded (l : Launch) (G : KG) (tag : Nat → Nat) (L : List Nat) (Fo : Nat → va_E) (ho : okT G ttC tag L Fo) (p0 : Nat) (p1 : Int32) (p2 : Int32) (x0 : Nat) (x1 : Nat) (x2 : Nat) (x3 : Int32) (x4 : Int32) (x5 : Int32) (m0 : p0 ∈ L) (g0 : tag p0 = 46) (h1 : 0 ≤ p1.toInt ∧ p1.toInt ≤ 0) (h2 : (-1) ≤ p2.toInt ∧ p2.toInt ≤ 11) (mx0 : x0 ∈ L) (gx0 : tag x0 = 44) (pf0 : fld Fo p0 4 = .ref x0) (mx1 : x1 ∈ L) (gx1 : tag x1 = 35) (pf1 : fld Fo x0 28 = .ref x1) (mx2 : x2 ∈ L) (gx2 : tag x2 = 36) (pf2 : fld Fo x0 29 = .ref x2) (hx3 : 0 ≤ x3.toInt ∧ x3.toInt ≤ 5) (pf3 : fld Fo p0 9 = .int x3) (hx4 : 0 ≤ x4.toInt ∧ x4.toInt ≤ 1000) (pf4 : fld Fo p0 8 = .int x4) (hx5 : 0 ≤ x5.toInt ∧ x5.toInt ≤ 7) (pf5 : fld Fo p0 13 = .int x5) (hkf : KF x3 x5) : TMi l yX13_bounded cX13_bounded 3 (some .int) { frames := 1, cells := 0, slots := 0, locals := 22 } G ttC tag L Fo [.ref p0, .int p1, .int p2] (fun r F1 => (0 ≤ r.toInt ∧ r.toInt ≤ 11) ∧ ((∀ b j : Nat, (tag b ≠ 46 ∨ j ≠ 9) → (tag b ≠ 46 ∨ j ≠ 13) → (tag b ≠ 46 ∨ j ≠ 14) → fld F1 b j = fld Fo b j) ∧ (∀ b j : Nat, elm F1 b j = elm Fo b j)) ∧ (∃ so sp fa : Int32, fld F1 p0 9 = .int so ∧ fld F1 p0 8 = .int sp ∧ fld F1 p0 13 = .int fa ∧ (0 ≤ so.toInt ∧ so.toInt ≤ 5) ∧ (0 ≤ sp.toInt ∧ sp.toInt ≤ 1000) ∧ (0 ≤ fa.toInt ∧ fa.toInt ≤ 7) ∧ STK x3 so ∧ SPT x3 x4 so sp ∧ KF so fa)) := by
  refine t_bodyi (y := yX13_bounded) (cd := cX13_bounded) (mL := 3) (rt := (some .int)) (rm := { frames := 1, cells := 0, slots := 0, locals := 22 }) (av := [.ref p0, .int p1, .int p2]) (by decide) (Nat.le_of_ble_eq_true rfl) ho ?_
  intro p e s m args below meth c ls A Q hQ X hT hl
  have hx := X.1.1
  have hb := X.1.2.1
  have hl : lv_has ls 3 [(0, .ref p0), (1, .int p1), (2, .int p2)] := hl
  obtain ⟨F, hFo⟩ : ∃ F : Nat → va_E, F = Fo := ⟨_, rfl⟩
  rw [← hFo] at hT pf0 pf1 pf2 pf3 pf4 pf5
  have hfr : (∀ b j : Nat, (tag b ≠ 46 ∨ j ≠ 9) → (tag b ≠ 46 ∨ j ≠ 13) → (tag b ≠ 46 ∨ j ≠ 14) → fld F b j = fld Fo b j) ∧ (∀ b j : Nat, elm F b j = elm Fo b j) := by
    rw [hFo]
    exact ⟨by intros; rfl, by intros; rfl⟩
  have hstk : STK x3 x3 := STK.rf
  have hspt : SPT x3 x4 x3 x4 := SPT.rf
  refine lv_aload_n hx hb dX13_bounded_0 rfl (lv_at hl 0 rfl) ?_
  refine t_get (C := RX13) (T := TX13) (N := 37) X hT m0 g0 rfl rfl 9 (by decide) qw_478 inlX13 rfl dX13_bounded_1 (fun v19039 hv19039 ov19039 => ?_)
  obtain rfl : v19039 = .int x3 := hv19039.symm.trans pf3
  refine lv_iconst (v := 3) hx hb dX13_bounded_4 (by decide) ?_
  refine lv_icmp_eq (tgt := 16) hx hb dX13_bounded_5 (by decide) (fun c19040 => ?_) (fun c19040 => ?_)
  · have w19041 := cv_eq (rfl : x3.toInt = x3.toInt) (by decide : (3 : Int32).toInt = 3) c19040
    refine lv_aload_n hx hb dX13_bounded_16 rfl (lv_at hl 0 rfl) ?_
    refine t_get (C := RX13) (T := TX13) (N := 37) X hT m0 g0 rfl rfl 12 (by decide) qw_516 inlX13 rfl dX13_bounded_17 (fun v19042 hv19042 ov19042 => ?_)
    obtain ⟨z19043, rfl, rz19043⟩ := okV_i ov19042
    refine lv_iload_n hx hb dX13_bounded_20 rfl (lv_at hl 1 rfl) ?_
    refine lv_iload_n hx hb dX13_bounded_21 rfl (lv_at hl 2 rfl) ?_
    refine t_cSi (n := 3) (As := [.int z19043, .int p1, .int p2]) (rest := []) X hT (km19_X13_within l G tag L F hT.2.2.2 z19043 p1 p2 ) qw_568 qw_569 qw_5 qw_570 ⟨by decide +kernel, by decide +kernel, by decide +kernel⟩ ⟨Nat.le_of_ble_eq_true rfl, Nat.le_of_ble_eq_true rfl⟩ hl rfl rfl (Nat.le_of_ble_eq_true rfl) dX13_bounded_22 ⟨Nat.le_of_ble_eq_true rfl, Nat.le_of_ble_eq_true rfl⟩ (fun z19044 F9 H locs hT hz19044 => ?_)
    obtain ⟨fz19044, hz19044, xz19044_0⟩ := hz19044
    rw [fz19044] at hT
    refine lv_if_ne (tgt := 33) hx hb dX13_bounded_25 (by decide) (fun c19045 => ?_) (fun c19045 => ?_)
    · have w19046 := cv_ne (rfl : z19044.toInt = z19044.toInt) (by decide : (0 : Int32).toInt = 0) c19045
      have w19047 := xz19044_0 (by omega)
      refine lv_aload_n hx hb dX13_bounded_33 rfl (lv_at hl 0 rfl) ?_
      refine t_get (C := RX13) (T := TX13) (N := 37) X hT m0 g0 rfl rfl 9 (by decide) qw_478 inlX13 rfl dX13_bounded_34 (fun v19048 hv19048 ov19048 => ?_)
      obtain rfl : v19048 = .int x3 := hv19048.symm.trans pf3
      refine lv_iconst (v := 5) hx hb dX13_bounded_37 (by decide) ?_
      refine lv_icmp_ne (tgt := 45) hx hb dX13_bounded_38 (by decide) (fun c19049 => ?_) (fun c19049 => ?_)
      · have w19050 := cv_ne (rfl : x3.toInt = x3.toInt) (by decide : (5 : Int32).toInt = 5) c19049
        refine lv_aload_n hx hb dX13_bounded_45 rfl (lv_at hl 0 rfl) ?_
        refine t_get (C := RX13) (T := TX13) (N := 37) X hT m0 g0 rfl rfl 12 (by decide) qw_516 inlX13 rfl dX13_bounded_46 (fun v19051 hv19051 ov19051 => ?_)
        obtain rfl : v19051 = .int z19043 := hv19051.symm.trans hv19042
        exact t_iret hQ X hT (⟨(by omega), hfr, ⟨x3, x4, x5, pf3, pf4, pf5, (by omega), (by omega), (by omega), hstk, hspt, hkf⟩⟩) (Nat.le_of_ble_eq_true rfl) (Nat.le_of_ble_eq_true rfl) dX13_bounded_49
      · have w19052 := cv_eq (rfl : x3.toInt = x3.toInt) (by decide : (5 : Int32).toInt = 5) c19049
        exfalso
        omega
    · have w19053 := cv_eq (rfl : z19044.toInt = z19044.toInt) (by decide : (0 : Int32).toInt = 0) c19045
      refine lv_aload_n hx hb dX13_bounded_28 rfl (lv_at hl 0 rfl) ?_
      refine lv_iconst (v := 4) hx hb dX13_bounded_29 (by decide) ?_
      refine t_cVv (n := 1) (C := RX13) (T := TX13) (N := 37) (As := [.int 4]) (rest := []) X hT (km10_X13_flaw l G tag L F hT.2.2.2 p0 4 x0 x1 x2 x3 x4 x5 m0 g0 (by decide) mx0 gx0 pf0 mx1 gx1 pf1 mx2 gx2 pf2 (by omega) pf3 (by omega) pf4 (by omega) pf5 hkf) m0 g0 rfl rfl qw_548 qw_549 qw_550 qw_5 qw_551 ⟨rfl, by decide +kernel, by decide +kernel, by decide +kernel⟩ ⟨Nat.le_of_ble_eq_true rfl, Nat.le_of_ble_eq_true rfl⟩ hl rfl rfl (Nat.le_of_ble_eq_true rfl) dX13_bounded_30 ⟨Nat.le_of_ble_eq_true rfl, Nat.le_of_ble_eq_true rfl⟩ (fun F H locs hT hz19054 => ?_)
      obtain ⟨yz19054, ⟨soz19054, spz19054, faz19054, qsoz19054, qspz19054, qfaz19054, rsoz19054, rspz19054, rfaz19054, stz19054, ptz19054, hkf, pxz19054_0⟩⟩ := hz19054
      have pf0 := (yz19054.1 _ 4 (Or.inr (by decide)) (Or.inr (by decide)) (Or.inr (by decide))).trans pf0
      have pf1 := (yz19054.1 _ 28 (Or.inr (by decide)) (Or.inr (by decide)) (Or.inr (by decide))).trans pf1
      have pf2 := (yz19054.1 _ 29 (Or.inr (by decide)) (Or.inr (by decide)) (Or.inr (by decide))).trans pf2
      have pf4 := (yz19054.1 _ 8 (Or.inr (by decide)) (Or.inr (by decide)) (Or.inr (by decide))).trans pf4
      have hv19042 := (yz19054.1 _ 12 (Or.inr (by decide)) (Or.inr (by decide)) (Or.inr (by decide))).trans hv19042
      have hfr : (∀ b j : Nat, (tag b ≠ 46 ∨ j ≠ 9) → (tag b ≠ 46 ∨ j ≠ 13) → (tag b ≠ 46 ∨ j ≠ 14) → fld F b j = fld Fo b j) ∧ (∀ b j : Nat, elm F b j = elm Fo b j) := ⟨fun b j n46_9 n46_13 n46_14 => (yz19054.1 b j n46_9 n46_13 n46_14).trans (hfr.1 b j n46_9 n46_13 n46_14), fun b j  => (yz19054.2 b j ).trans (hfr.2 b j )⟩
      have hstk := STK.tr hstk stz19054
      have hspt := SPT.tr hspt ptz19054
      refine lv_aload_n hx hb dX13_bounded_33 rfl (lv_at hl 0 rfl) ?_
      refine t_get (C := RX13) (T := TX13) (N := 37) X hT m0 g0 rfl rfl 9 (by decide) qw_478 inlX13 rfl dX13_bounded_34 (fun v19055 hv19055 ov19055 => ?_)
      obtain rfl : v19055 = .int soz19054 := hv19055.symm.trans qsoz19054
      refine lv_iconst (v := 5) hx hb dX13_bounded_37 (by decide) ?_
      refine lv_icmp_ne (tgt := 45) hx hb dX13_bounded_38 (by decide) (fun c19056 => ?_) (fun c19056 => ?_)
      · have w19057 := cv_ne (rfl : soz19054.toInt = soz19054.toInt) (by decide : (5 : Int32).toInt = 5) c19056
        exfalso
        omega
      · have w19058 := cv_eq (rfl : soz19054.toInt = soz19054.toInt) (by decide : (5 : Int32).toInt = 5) c19056
        refine lv_iload_n hx hb dX13_bounded_41 rfl (lv_at hl 1 rfl) ?_
        refine lv_goto (tgt := 49) hx hb dX13_bounded_42 (by decide) ?_
        exact t_iret hQ X hT (⟨(by omega), hfr, ⟨soz19054, spz19054, faz19054, qsoz19054, qspz19054, qfaz19054, (by omega), (by omega), (by omega), hstk, hspt, hkf⟩⟩) (Nat.le_of_ble_eq_true rfl) (Nat.le_of_ble_eq_true rfl) dX13_bounded_49
  · have w19059 := cv_ne (rfl : x3.toInt = x3.toInt) (by decide : (3 : Int32).toInt = 3) c19040
    refine lv_aload_n hx hb dX13_bounded_8 rfl (lv_at hl 0 rfl) ?_
    refine lv_iconst (v := 1) hx hb dX13_bounded_9 (by decide) ?_
    refine t_cVv (n := 1) (C := RX13) (T := TX13) (N := 37) (As := [.int 1]) (rest := []) X hT (km10_X13_flaw l G tag L F hT.2.2.2 p0 1 x0 x1 x2 x3 x4 x5 m0 g0 (by decide) mx0 gx0 pf0 mx1 gx1 pf1 mx2 gx2 pf2 (by omega) pf3 (by omega) pf4 (by omega) pf5 hkf) m0 g0 rfl rfl qw_548 qw_549 qw_550 qw_5 qw_551 ⟨rfl, by decide +kernel, by decide +kernel, by decide +kernel⟩ ⟨Nat.le_of_ble_eq_true rfl, Nat.le_of_ble_eq_true rfl⟩ hl rfl rfl (Nat.le_of_ble_eq_true rfl) dX13_bounded_10 ⟨Nat.le_of_ble_eq_true rfl, Nat.le_of_ble_eq_true rfl⟩ (fun F H locs hT hz19060 => ?_)
    obtain ⟨yz19060, ⟨soz19060, spz19060, faz19060, qsoz19060, qspz19060, qfaz19060, rsoz19060, rspz19060, rfaz19060, stz19060, ptz19060, hkf, pxz19060_0⟩⟩ := hz19060
    have pf0 := (yz19060.1 _ 4 (Or.inr (by decide)) (Or.inr (by decide)) (Or.inr (by decide))).trans pf0
    have pf1 := (yz19060.1 _ 28 (Or.inr (by decide)) (Or.inr (by decide)) (Or.inr (by decide))).trans pf1
    have pf2 := (yz19060.1 _ 29 (Or.inr (by decide)) (Or.inr (by decide)) (Or.inr (by decide))).trans pf2
    have pf4 := (yz19060.1 _ 8 (Or.inr (by decide)) (Or.inr (by decide)) (Or.inr (by decide))).trans pf4
    have hfr : (∀ b j : Nat, (tag b ≠ 46 ∨ j ≠ 9) → (tag b ≠ 46 ∨ j ≠ 13) → (tag b ≠ 46 ∨ j ≠ 14) → fld F b j = fld Fo b j) ∧ (∀ b j : Nat, elm F b j = elm Fo b j) := ⟨fun b j n46_9 n46_13 n46_14 => (yz19060.1 b j n46_9 n46_13 n46_14).trans (hfr.1 b j n46_9 n46_13 n46_14), fun b j  => (yz19060.2 b j ).trans (hfr.2 b j )⟩
    have hstk := STK.tr hstk stz19060
    have hspt := SPT.tr hspt ptz19060
    refine lv_goto (tgt := 33) hx hb dX13_bounded_13 (by decide) ?_
    refine lv_aload_n hx hb dX13_bounded_33 rfl (lv_at hl 0 rfl) ?_
    refine t_get (C := RX13) (T := TX13) (N := 37) X hT m0 g0 rfl rfl 9 (by decide) qw_478 inlX13 rfl dX13_bounded_34 (fun v19061 hv19061 ov19061 => ?_)
    obtain rfl : v19061 = .int soz19060 := hv19061.symm.trans qsoz19060
    refine lv_iconst (v := 5) hx hb dX13_bounded_37 (by decide) ?_
    refine lv_icmp_ne (tgt := 45) hx hb dX13_bounded_38 (by decide) (fun c19062 => ?_) (fun c19062 => ?_)
    · have w19063 := cv_ne (rfl : soz19060.toInt = soz19060.toInt) (by decide : (5 : Int32).toInt = 5) c19062
      exfalso
      omega
    · have w19064 := cv_eq (rfl : soz19060.toInt = soz19060.toInt) (by decide : (5 : Int32).toInt = 5) c19062
      refine lv_iload_n hx hb dX13_bounded_41 rfl (lv_at hl 1 rfl) ?_
      refine lv_goto (tgt := 49) hx hb dX13_bounded_42 (by decide) ?_
      exact t_iret hQ X hT (⟨(by omega), hfr, ⟨soz19060, spz19060, faz19060, qsoz19060, qspz19060, qfaz19060, (by omega), (by omega), (by omega), hstk, hspt, hkf⟩⟩) (Nat.le_of_ble_eq_true rfl) (Nat.le_of_ble_eq_true rfl) dX13_bounded_49
set_option maxHeartbeats 4000000 in
set_option maxRecDepth 100000 in
theorem km53_X13_readWhole (l : Launch) (G : KG) (tag : Nat → Nat) (L : List Nat) (Fo : Nat → va_E) (ho : okT G ttC tag L Fo) (p0 : Nat) (p1 : Int32) (p2 : Int32) (x0 : Nat) (x1 : Nat) (x2 : Nat) (x3 : Int32) (x4 : Int32) (x5 : Int32) (m0 : p0 ∈ L) (g0 : tag p0 = 46) (h1 : 0 ≤ p1.toInt ∧ p1.toInt ≤ 0) (h2 : (-1) ≤ p2.toInt ∧ p2.toInt ≤ 11) (mx0 : x0 ∈ L) (gx0 : tag x0 = 44) (pf0 : fld Fo p0 4 = .ref x0) (mx1 : x1 ∈ L) (gx1 : tag x1 = 35) (pf1 : fld Fo x0 28 = .ref x1) (mx2 : x2 ∈ L) (gx2 : tag x2 = 36) (pf2 : fld Fo x0 29 = .ref x2) (hx3 : 0 ≤ x3.toInt ∧ x3.toInt ≤ 5) (pf3 : fld Fo p0 9 = .int x3) (hx4 : 0 ≤ x4.toInt ∧ x4.toInt ≤ 1000) (pf4 : fld Fo p0 8 = .int x4) (hx5 : 0 ≤ x5.toInt ∧ x5.toInt ≤ 7) (pf5 : fld Fo p0 13 = .int x5) (hkf : KF x3 x5) : TMi l yX13_readWhole cX13_readWhole 4 (some .int) { frames := 2, cells := 0, slots := 0, locals := 44 } G ttC tag L Fo [.ref p0, .int p1, .int p2] (fun r F1 => (0 ≤ r.toInt ∧ r.toInt ≤ 11) ∧ ((∀ b j : Nat, (tag b ≠ 46 ∨ j ≠ 8) → (tag b ≠ 46 ∨ j ≠ 9) → (tag b ≠ 46 ∨ j ≠ 10) → (tag b ≠ 46 ∨ j ≠ 11) → (tag b ≠ 46 ∨ j ≠ 12) → (tag b ≠ 46 ∨ j ≠ 13) → (tag b ≠ 46 ∨ j ≠ 14) → (tag b ≠ 46 ∨ j ≠ 15) → fld F1 b j = fld Fo b j) ∧ (∀ b j : Nat, elm F1 b j = elm Fo b j)) ∧ (∃ so sp fa : Int32, fld F1 p0 9 = .int so ∧ fld F1 p0 8 = .int sp ∧ fld F1 p0 13 = .int fa ∧ (0 ≤ so.toInt ∧ so.toInt ≤ 5) ∧ (0 ≤ sp.toInt ∧ sp.toInt ≤ 1000) ∧ (0 ≤ fa.toInt ∧ fa.toInt ≤ 7) ∧ STK x3 so ∧ SPT x3 x4 so sp ∧ KF so fa)) := by
  refine t_bodyi (y := yX13_readWhole) (cd := cX13_readWhole) (mL := 4) (rt := (some .int)) (rm := { frames := 2, cells := 0, slots := 0, locals := 44 }) (av := [.ref p0, .int p1, .int p2]) (by decide) (Nat.le_of_ble_eq_true rfl) ho ?_
  intro p e s m args below meth c ls A Q hQ X hT hl
  have hx := X.1.1
  have hb := X.1.2.1
  have hl : lv_has ls 4 [(0, .ref p0), (1, .int p1), (2, .int p2)] := hl
  obtain ⟨F, hFo⟩ : ∃ F : Nat → va_E, F = Fo := ⟨_, rfl⟩
  rw [← hFo] at hT pf0 pf1 pf2 pf3 pf4 pf5
  have hfr : (∀ b j : Nat, (tag b ≠ 46 ∨ j ≠ 8) → (tag b ≠ 46 ∨ j ≠ 9) → (tag b ≠ 46 ∨ j ≠ 10) → (tag b ≠ 46 ∨ j ≠ 11) → (tag b ≠ 46 ∨ j ≠ 12) → (tag b ≠ 46 ∨ j ≠ 13) → (tag b ≠ 46 ∨ j ≠ 14) → (tag b ≠ 46 ∨ j ≠ 15) → fld F b j = fld Fo b j) ∧ (∀ b j : Nat, elm F b j = elm Fo b j) := by
    rw [hFo]
    exact ⟨by intros; rfl, by intros; rfl⟩
  have hstk : STK x3 x3 := STK.rf
  have hspt : SPT x3 x4 x3 x4 := SPT.rf
  refine lv_aload_n hx hb dX13_readWhole_0 rfl (lv_at hl 0 rfl) ?_
  refine lv_iload_n hx hb dX13_readWhole_1 rfl (lv_at hl 1 rfl) ?_
  refine lv_iload_n hx hb dX13_readWhole_2 rfl (lv_at hl 2 rfl) ?_
  refine t_cVi (n := 2) (C := RX13) (T := TX13) (N := 37) (As := [.int p1, .int p2]) (rest := []) X hT (km52_X13_bounded l G tag L F hT.2.2.2 p0 p1 p2 x0 x1 x2 x3 x4 x5 m0 g0 (by omega) (by omega) mx0 gx0 pf0 mx1 gx1 pf1 mx2 gx2 pf2 (by omega) pf3 (by omega) pf4 (by omega) pf5 hkf) m0 g0 rfl rfl qw_564 qw_565 qw_566 qw_5 qw_567 ⟨rfl, by decide +kernel, by decide +kernel, by decide +kernel⟩ ⟨Nat.le_of_ble_eq_true rfl, Nat.le_of_ble_eq_true rfl⟩ hl rfl rfl (Nat.le_of_ble_eq_true rfl) dX13_readWhole_3 ⟨Nat.le_of_ble_eq_true rfl, Nat.le_of_ble_eq_true rfl⟩ (fun z19087 F H locs hT hz19087 => ?_)
  obtain ⟨hz19087, yz19087, ⟨soz19087, spz19087, faz19087, qsoz19087, qspz19087, qfaz19087, rsoz19087, rspz19087, rfaz19087, stz19087, ptz19087, hkf⟩⟩ := hz19087
  have pf0 := (yz19087.1 _ 4 (Or.inr (by decide)) (Or.inr (by decide)) (Or.inr (by decide))).trans pf0
  have pf1 := (yz19087.1 _ 28 (Or.inr (by decide)) (Or.inr (by decide)) (Or.inr (by decide))).trans pf1
  have pf2 := (yz19087.1 _ 29 (Or.inr (by decide)) (Or.inr (by decide)) (Or.inr (by decide))).trans pf2
  have pf4 := (yz19087.1 _ 8 (Or.inr (by decide)) (Or.inr (by decide)) (Or.inr (by decide))).trans pf4
  have hfr : (∀ b j : Nat, (tag b ≠ 46 ∨ j ≠ 8) → (tag b ≠ 46 ∨ j ≠ 9) → (tag b ≠ 46 ∨ j ≠ 10) → (tag b ≠ 46 ∨ j ≠ 11) → (tag b ≠ 46 ∨ j ≠ 12) → (tag b ≠ 46 ∨ j ≠ 13) → (tag b ≠ 46 ∨ j ≠ 14) → (tag b ≠ 46 ∨ j ≠ 15) → fld F b j = fld Fo b j) ∧ (∀ b j : Nat, elm F b j = elm Fo b j) := ⟨fun b j n46_8 n46_9 n46_10 n46_11 n46_12 n46_13 n46_14 n46_15 => (yz19087.1 b j n46_9 n46_13 n46_14).trans (hfr.1 b j n46_8 n46_9 n46_10 n46_11 n46_12 n46_13 n46_14 n46_15), fun b j  => (yz19087.2 b j ).trans (hfr.2 b j )⟩
  have hstk := STK.tr hstk stz19087
  have hspt := SPT.tr hspt ptz19087
  refine lv_istore_n (lv' := [(3, .int z19087), (0, .ref p0), (1, .int p1), (2, .int p2)]) hx hb dX13_readWhole_6 rfl hl (by decide) rfl (fun ls hl => ?_)
  refine lv_aload_n hx hb dX13_readWhole_7 rfl (lv_at hl 1 rfl) ?_
  refine t_cVv (n := 0) (C := RX13) (T := TX13) (N := 37) (As := []) (rest := []) X hT (km14_X13_goesOn l G tag L F hT.2.2.2 p0 x0 x1 x2 soz19087 spz19087 faz19087 m0 g0 mx0 gx0 pf0 mx1 gx1 pf1 mx2 gx2 pf2 (by omega) qsoz19087 (by omega) qspz19087 (by omega) qfaz19087 hkf) m0 g0 rfl rfl qw_508 qw_509 qw_510 qw_5 qw_511 ⟨rfl, by decide +kernel, by decide +kernel, by decide +kernel⟩ ⟨Nat.le_of_ble_eq_true rfl, Nat.le_of_ble_eq_true rfl⟩ hl rfl rfl (Nat.le_of_ble_eq_true rfl) dX13_readWhole_8 ⟨Nat.le_of_ble_eq_true rfl, Nat.le_of_ble_eq_true rfl⟩ (fun F H locs hT hz19088 => ?_)
  obtain ⟨yz19088, ⟨soz19088, spz19088, faz19088, qsoz19088, qspz19088, qfaz19088, rsoz19088, rspz19088, rfaz19088, stz19088, ptz19088, hkf⟩⟩ := hz19088
  have pf0 := (yz19088.1 _ 4 (Or.inr (by decide)) (Or.inr (by decide)) (Or.inr (by decide)) (Or.inr (by decide)) (Or.inr (by decide)) (Or.inr (by decide))).trans pf0
  have pf1 := (yz19088.1 _ 28 (Or.inr (by decide)) (Or.inr (by decide)) (Or.inr (by decide)) (Or.inr (by decide)) (Or.inr (by decide)) (Or.inr (by decide))).trans pf1
  have pf2 := (yz19088.1 _ 29 (Or.inr (by decide)) (Or.inr (by decide)) (Or.inr (by decide)) (Or.inr (by decide)) (Or.inr (by decide)) (Or.inr (by decide))).trans pf2
  have qfaz19087 := (yz19088.1 _ 13 (Or.inr (by decide)) (Or.inr (by decide)) (Or.inr (by decide)) (Or.inr (by decide)) (Or.inr (by decide)) (Or.inr (by decide))).trans qfaz19087
  have hfr : (∀ b j : Nat, (tag b ≠ 46 ∨ j ≠ 8) → (tag b ≠ 46 ∨ j ≠ 9) → (tag b ≠ 46 ∨ j ≠ 10) → (tag b ≠ 46 ∨ j ≠ 11) → (tag b ≠ 46 ∨ j ≠ 12) → (tag b ≠ 46 ∨ j ≠ 13) → (tag b ≠ 46 ∨ j ≠ 14) → (tag b ≠ 46 ∨ j ≠ 15) → fld F b j = fld Fo b j) ∧ (∀ b j : Nat, elm F b j = elm Fo b j) := ⟨fun b j n46_8 n46_9 n46_10 n46_11 n46_12 n46_13 n46_14 n46_15 => (yz19088.1 b j n46_8 n46_9 n46_10 n46_11 n46_12 n46_15).trans (hfr.1 b j n46_8 n46_9 n46_10 n46_11 n46_12 n46_13 n46_14 n46_15), fun b j  => (yz19088.2 b j ).trans (hfr.2 b j )⟩
  have hstk := STK.tr hstk stz19088
  have hspt := SPT.tr hspt ptz19088
  refine lv_iload_n hx hb dX13_readWhole_11 rfl (lv_at hl 0 rfl) ?_
  exact t_iret hQ X hT (⟨(by omega), hfr, ⟨soz19088, spz19088, faz19088, qsoz19088, qspz19088, qfaz19088, (by omega), (by omega), (by omega), hstk, hspt, hkf⟩⟩) (Nat.le_of_ble_eq_true rfl) (Nat.le_of_ble_eq_true rfl) dX13_readWhole_12
set_option maxHeartbeats 4000000 in
set_option maxRecDepth 100000 in
theorem km54_X13_needsSign (l : Launch) (G : KG) (tag : Nat → Nat) (L : List Nat) (Fo : Nat → va_E) (ho : okT G ttC tag L Fo) (p0 : Nat) (p1 : Int32) (x0 : Nat) (x1 : Nat) (x2 : Nat) (x3 : Int32) (x4 : Int32) (x5 : Int32) (m0 : p0 ∈ L) (g0 : tag p0 = 46) (mx0 : x0 ∈ L) (gx0 : tag x0 = 44) (pf0 : fld Fo p0 4 = .ref x0) (mx1 : x1 ∈ L) (gx1 : tag x1 = 35) (pf1 : fld Fo x0 28 = .ref x1) (mx2 : x2 ∈ L) (gx2 : tag x2 = 36) (pf2 : fld Fo x0 29 = .ref x2) (hx3 : 0 ≤ x3.toInt ∧ x3.toInt ≤ 5) (pf3 : fld Fo p0 9 = .int x3) (hx4 : 0 ≤ x4.toInt ∧ x4.toInt ≤ 1000) (pf4 : fld Fo p0 8 = .int x4) (hx5 : 0 ≤ x5.toInt ∧ x5.toInt ≤ 7) (pf5 : fld Fo p0 13 = .int x5) (hkf : KF x3 x5) : TMv l yX13_needsSign cX13_needsSign 2 { frames := 2, cells := 0, slots := 0, locals := 43 } G ttC tag L Fo [.ref p0, .int p1] (fun F1 => ((∀ b j : Nat, (tag b ≠ 46 ∨ j ≠ 8) → (tag b ≠ 46 ∨ j ≠ 9) → (tag b ≠ 46 ∨ j ≠ 10) → (tag b ≠ 46 ∨ j ≠ 11) → (tag b ≠ 46 ∨ j ≠ 12) → (tag b ≠ 46 ∨ j ≠ 13) → (tag b ≠ 46 ∨ j ≠ 14) → (tag b ≠ 46 ∨ j ≠ 15) → fld F1 b j = fld Fo b j) ∧ (∀ b j : Nat, elm F1 b j = elm Fo b j)) ∧ (∃ so sp fa : Int32, fld F1 p0 9 = .int so ∧ fld F1 p0 8 = .int sp ∧ fld F1 p0 13 = .int fa ∧ (0 ≤ so.toInt ∧ so.toInt ≤ 5) ∧ (0 ≤ sp.toInt ∧ sp.toInt ≤ 1000) ∧ (0 ≤ fa.toInt ∧ fa.toInt ≤ 7) ∧ STK x3 so ∧ SPT x3 x4 so sp ∧ KF so fa)) := by
  refine t_bodyv (y := yX13_needsSign) (cd := cX13_needsSign) (mL := 2) (rm := { frames := 2, cells := 0, slots := 0, locals := 43 }) (av := [.ref p0, .int p1]) (by decide) (Nat.le_of_ble_eq_true rfl) ho ?_
  intro p e s m args below meth c ls A Q hQ X hT hl
  have hx := X.1.1
  have hb := X.1.2.1
  have hl : lv_has ls 2 [(0, .ref p0), (1, .int p1)] := hl
  have rp1 := rg_all p1
  obtain ⟨F, hFo⟩ : ∃ F : Nat → va_E, F = Fo := ⟨_, rfl⟩
  rw [← hFo] at hT pf0 pf1 pf2 pf3 pf4 pf5
  have hfr : (∀ b j : Nat, (tag b ≠ 46 ∨ j ≠ 8) → (tag b ≠ 46 ∨ j ≠ 9) → (tag b ≠ 46 ∨ j ≠ 10) → (tag b ≠ 46 ∨ j ≠ 11) → (tag b ≠ 46 ∨ j ≠ 12) → (tag b ≠ 46 ∨ j ≠ 13) → (tag b ≠ 46 ∨ j ≠ 14) → (tag b ≠ 46 ∨ j ≠ 15) → fld F b j = fld Fo b j) ∧ (∀ b j : Nat, elm F b j = elm Fo b j) := by
    rw [hFo]
    exact ⟨by intros; rfl, by intros; rfl⟩
  have hstk : STK x3 x3 := STK.rf
  have hspt : SPT x3 x4 x3 x4 := SPT.rf
  have K21 : ∀ (z19213 : Int32) (z19214 : Int32) (z19215 : Int32) (F : Nat → va_E) (H : Heap) (locs : List Loc) (ls : Array Slot), (4 ≤ z19213.toInt ∧ z19213.toInt ≤ 5) → (0 ≤ z19214.toInt ∧ z19214.toInt ≤ 1000) → (0 ≤ z19215.toInt ∧ z19215.toInt ≤ 7) → TH G ttC A s tag L F H locs → ((∀ b j : Nat, (tag b ≠ 46 ∨ j ≠ 8) → (tag b ≠ 46 ∨ j ≠ 9) → (tag b ≠ 46 ∨ j ≠ 10) → (tag b ≠ 46 ∨ j ≠ 11) → (tag b ≠ 46 ∨ j ≠ 12) → (tag b ≠ 46 ∨ j ≠ 13) → (tag b ≠ 46 ∨ j ≠ 14) → (tag b ≠ 46 ∨ j ≠ 15) → fld F b j = fld Fo b j) ∧ (∀ b j : Nat, elm F b j = elm Fo b j)) → (fld F p0 4 = .ref x0) → (fld F x0 28 = .ref x1) → (fld F x0 29 = .ref x2) → (fld F p0 9 = .int z19213) → (fld F p0 8 = .int z19214) → (fld F p0 13 = .int z19215) → (STK x3 z19213) → (SPT x3 x4 z19213 z19214) → (KF z19213 z19215) → lv_has ls 2 [(0, .ref p0), (1, .int p1)] → W p l e { frames := 2, cells := 0, slots := 0, locals := 43 } s m args below meth c H locs 0 0 Q (F0 m 21 ls []) := by
    intro z19213 z19214 z19215 F H locs ls rz19213 rz19214 rz19215 hT hfr pf0 pf1 pf2 qz19213 qz19214 qz19215 hstk hspt hkf hl
    refine lv_aload_n hx hb dX13_needsSign_21 rfl (lv_at hl 0 rfl) ?_
    refine t_cVv (n := 0) (C := RX13) (T := TX13) (N := 37) (As := []) (rest := []) X hT (km14_X13_goesOn l G tag L F hT.2.2.2 p0 x0 x1 x2 z19213 z19214 z19215 m0 g0 mx0 gx0 pf0 mx1 gx1 pf1 mx2 gx2 pf2 (by omega) qz19213 (by omega) qz19214 (by omega) qz19215 hkf) m0 g0 rfl rfl qw_508 qw_509 qw_510 qw_5 qw_511 ⟨rfl, by decide +kernel, by decide +kernel, by decide +kernel⟩ ⟨Nat.le_of_ble_eq_true rfl, Nat.le_of_ble_eq_true rfl⟩ hl rfl rfl (Nat.le_of_ble_eq_true rfl) dX13_needsSign_22 ⟨Nat.le_of_ble_eq_true rfl, Nat.le_of_ble_eq_true rfl⟩ (fun F H locs hT hz19216 => ?_)
    obtain ⟨yz19216, ⟨soz19216, spz19216, faz19216, qsoz19216, qspz19216, qfaz19216, rsoz19216, rspz19216, rfaz19216, stz19216, ptz19216, hkf⟩⟩ := hz19216
    have qz19215 := (yz19216.1 _ 13 (Or.inr (by decide)) (Or.inr (by decide)) (Or.inr (by decide)) (Or.inr (by decide)) (Or.inr (by decide)) (Or.inr (by decide))).trans qz19215
    have pf0 := (yz19216.1 _ 4 (Or.inr (by decide)) (Or.inr (by decide)) (Or.inr (by decide)) (Or.inr (by decide)) (Or.inr (by decide)) (Or.inr (by decide))).trans pf0
    have pf1 := (yz19216.1 _ 28 (Or.inr (by decide)) (Or.inr (by decide)) (Or.inr (by decide)) (Or.inr (by decide)) (Or.inr (by decide)) (Or.inr (by decide))).trans pf1
    have pf2 := (yz19216.1 _ 29 (Or.inr (by decide)) (Or.inr (by decide)) (Or.inr (by decide)) (Or.inr (by decide)) (Or.inr (by decide)) (Or.inr (by decide))).trans pf2
    have hfr : (∀ b j : Nat, (tag b ≠ 46 ∨ j ≠ 8) → (tag b ≠ 46 ∨ j ≠ 9) → (tag b ≠ 46 ∨ j ≠ 10) → (tag b ≠ 46 ∨ j ≠ 11) → (tag b ≠ 46 ∨ j ≠ 12) → (tag b ≠ 46 ∨ j ≠ 13) → (tag b ≠ 46 ∨ j ≠ 14) → (tag b ≠ 46 ∨ j ≠ 15) → fld F b j = fld Fo b j) ∧ (∀ b j : Nat, elm F b j = elm Fo b j) := ⟨fun b j n46_8 n46_9 n46_10 n46_11 n46_12 n46_13 n46_14 n46_15 => (yz19216.1 b j n46_8 n46_9 n46_10 n46_11 n46_12 n46_15).trans (hfr.1 b j n46_8 n46_9 n46_10 n46_11 n46_12 n46_13 n46_14 n46_15), fun b j  => (yz19216.2 b j ).trans (hfr.2 b j )⟩
    have hstk := STK.tr hstk stz19216
    have hspt := SPT.tr hspt ptz19216
    exact t_vret hQ X hT ⟨hfr, ⟨soz19216, spz19216, faz19216, qsoz19216, qspz19216, qfaz19216, (by omega), (by omega), (by omega), hstk, hspt, hkf⟩⟩ (Nat.le_of_ble_eq_true rfl) (Nat.le_of_ble_eq_true rfl) dX13_needsSign_25
  have K16 : ∀ (z19217 : Int32) (z19218 : Int32) (z19219 : Int32) (F : Nat → va_E) (H : Heap) (locs : List Loc) (ls : Array Slot), (0 ≤ z19217.toInt ∧ z19217.toInt ≤ 5) → (0 ≤ z19218.toInt ∧ z19218.toInt ≤ 1000) → (0 ≤ z19219.toInt ∧ z19219.toInt ≤ 7) → TH G ttC A s tag L F H locs → ((∀ b j : Nat, (tag b ≠ 46 ∨ j ≠ 8) → (tag b ≠ 46 ∨ j ≠ 9) → (tag b ≠ 46 ∨ j ≠ 10) → (tag b ≠ 46 ∨ j ≠ 11) → (tag b ≠ 46 ∨ j ≠ 12) → (tag b ≠ 46 ∨ j ≠ 13) → (tag b ≠ 46 ∨ j ≠ 14) → (tag b ≠ 46 ∨ j ≠ 15) → fld F b j = fld Fo b j) ∧ (∀ b j : Nat, elm F b j = elm Fo b j)) → (fld F p0 4 = .ref x0) → (fld F x0 28 = .ref x1) → (fld F x0 29 = .ref x2) → (fld F p0 9 = .int z19217) → (fld F p0 8 = .int z19218) → (fld F p0 13 = .int z19219) → (STK x3 z19217) → (SPT x3 x4 z19217 z19218) → (KF z19217 z19219) → lv_has ls 2 [(0, .ref p0), (1, .int p1)] → W p l e { frames := 2, cells := 0, slots := 0, locals := 43 } s m args below meth c H locs 0 0 Q (F0 m 16 ls []) := by
    intro z19217 z19218 z19219 F H locs ls rz19217 rz19218 rz19219 hT hfr pf0 pf1 pf2 qz19217 qz19218 qz19219 hstk hspt hkf hl
    refine lv_aload_n hx hb dX13_needsSign_16 rfl (lv_at hl 0 rfl) ?_
    refine lv_iconst (v := 1) hx hb dX13_needsSign_17 (by decide) ?_
    refine t_cVv (n := 1) (C := RX13) (T := TX13) (N := 37) (As := [.int 1]) (rest := []) X hT (km10_X13_flaw l G tag L F hT.2.2.2 p0 1 x0 x1 x2 z19217 z19218 z19219 m0 g0 (by decide) mx0 gx0 pf0 mx1 gx1 pf1 mx2 gx2 pf2 (by omega) qz19217 (by omega) qz19218 (by omega) qz19219 hkf) m0 g0 rfl rfl qw_548 qw_549 qw_550 qw_5 qw_551 ⟨rfl, by decide +kernel, by decide +kernel, by decide +kernel⟩ ⟨Nat.le_of_ble_eq_true rfl, Nat.le_of_ble_eq_true rfl⟩ hl rfl rfl (Nat.le_of_ble_eq_true rfl) dX13_needsSign_18 ⟨Nat.le_of_ble_eq_true rfl, Nat.le_of_ble_eq_true rfl⟩ (fun F H locs hT hz19220 => ?_)
    obtain ⟨yz19220, ⟨soz19220, spz19220, faz19220, qsoz19220, qspz19220, qfaz19220, rsoz19220, rspz19220, rfaz19220, stz19220, ptz19220, hkf, pxz19220_0⟩⟩ := hz19220
    have qz19218 := (yz19220.1 _ 8 (Or.inr (by decide)) (Or.inr (by decide)) (Or.inr (by decide))).trans qz19218
    have pf0 := (yz19220.1 _ 4 (Or.inr (by decide)) (Or.inr (by decide)) (Or.inr (by decide))).trans pf0
    have pf1 := (yz19220.1 _ 28 (Or.inr (by decide)) (Or.inr (by decide)) (Or.inr (by decide))).trans pf1
    have pf2 := (yz19220.1 _ 29 (Or.inr (by decide)) (Or.inr (by decide)) (Or.inr (by decide))).trans pf2
    have hfr : (∀ b j : Nat, (tag b ≠ 46 ∨ j ≠ 8) → (tag b ≠ 46 ∨ j ≠ 9) → (tag b ≠ 46 ∨ j ≠ 10) → (tag b ≠ 46 ∨ j ≠ 11) → (tag b ≠ 46 ∨ j ≠ 12) → (tag b ≠ 46 ∨ j ≠ 13) → (tag b ≠ 46 ∨ j ≠ 14) → (tag b ≠ 46 ∨ j ≠ 15) → fld F b j = fld Fo b j) ∧ (∀ b j : Nat, elm F b j = elm Fo b j) := ⟨fun b j n46_8 n46_9 n46_10 n46_11 n46_12 n46_13 n46_14 n46_15 => (yz19220.1 b j n46_9 n46_13 n46_14).trans (hfr.1 b j n46_8 n46_9 n46_10 n46_11 n46_12 n46_13 n46_14 n46_15), fun b j  => (yz19220.2 b j ).trans (hfr.2 b j )⟩
    have hstk := STK.tr hstk stz19220
    have hspt := SPT.tr hspt ptz19220
    exact K21 soz19220 spz19220 faz19220 _ _ _ _ (by omega) (by omega) (by omega) hT hfr pf0 pf1 pf2 qsoz19220 qspz19220 qfaz19220 hstk hspt hkf (lv_sub hl [0, 1] rfl)
  refine lv_aload_n hx hb dX13_needsSign_0 rfl (lv_at hl 0 rfl) ?_
  refine t_get (C := RX13) (T := TX13) (N := 37) X hT m0 g0 rfl rfl 9 (by decide) qw_478 inlX13 rfl dX13_needsSign_1 (fun v19221 hv19221 ov19221 => ?_)
  obtain rfl : v19221 = .int x3 := hv19221.symm.trans pf3
  refine lv_iconst (v := 4) hx hb dX13_needsSign_4 (by decide) ?_
  refine lv_icmp_ne (tgt := 16) hx hb dX13_needsSign_5 (by decide) (fun c19222 => ?_) (fun c19222 => ?_)
  · have w19223 := cv_ne (rfl : x3.toInt = x3.toInt) (by decide : (4 : Int32).toInt = 4) c19222
    exact K16 x3 x4 x5 _ _ _ _ (by omega) (by omega) (by omega) hT hfr pf0 pf1 pf2 pf3 pf4 pf5 hstk hspt hkf (lv_sub hl [0, 1] rfl)
  · have w19224 := cv_eq (rfl : x3.toInt = x3.toInt) (by decide : (4 : Int32).toInt = 4) c19222
    refine lv_aload_n hx hb dX13_needsSign_8 rfl (lv_at hl 0 rfl) ?_
    refine t_get (C := RX13) (T := TX13) (N := 37) X hT m0 g0 rfl rfl 11 (by decide) qw_513 inlX13 rfl dX13_needsSign_9 (fun v19225 hv19225 ov19225 => ?_)
    obtain ⟨z19226, rfl, rz19226⟩ := okV_i ov19225
    refine lv_iload_n hx hb dX13_needsSign_12 rfl (lv_at hl 1 rfl) ?_
    refine lv_icmp_eq (tgt := 21) hx hb dX13_needsSign_13 (by decide) (fun c19227 => ?_) (fun c19227 => ?_)
    · have w19228 := cv_eq (rfl : z19226.toInt = z19226.toInt) (rfl : p1.toInt = p1.toInt) c19227
      exact K21 x3 x4 x5 _ _ _ _ (by omega) (by omega) (by omega) hT hfr pf0 pf1 pf2 pf3 pf4 pf5 hstk hspt hkf (lv_sub hl [0, 1] rfl)
    · have w19229 := cv_ne (rfl : z19226.toInt = z19226.toInt) (rfl : p1.toInt = p1.toInt) c19227
      exact K16 x3 x4 x5 _ _ _ _ (by omega) (by omega) (by omega) hT hfr pf0 pf1 pf2 pf3 pf4 pf5 hstk hspt hkf (lv_sub hl [0, 1] rfl)
set_option maxHeartbeats 4000000 in
set_option maxRecDepth 100000 in
theorem km55_X13_knownCell (l : Launch) (G : KG) (tag : Nat → Nat) (L : List Nat) (Fo : Nat → va_E) (ho : okT G ttC tag L Fo) (p0 : Nat) (x0 : Nat) (x1 : Nat) (x2 : Nat) (x3 : Int32) (x4 : Int32) (x5 : Int32) (m0 : p0 ∈ L) (g0 : tag p0 = 46) (mx0 : x0 ∈ L) (gx0 : tag x0 = 44) (pf0 : fld Fo p0 4 = .ref x0) (mx1 : x1 ∈ L) (gx1 : tag x1 = 35) (pf1 : fld Fo x0 28 = .ref x1) (mx2 : x2 ∈ L) (gx2 : tag x2 = 36) (pf2 : fld Fo x0 29 = .ref x2) (hx3 : 0 ≤ x3.toInt ∧ x3.toInt ≤ 5) (pf3 : fld Fo p0 9 = .int x3) (hx4 : 0 ≤ x4.toInt ∧ x4.toInt ≤ 1000) (pf4 : fld Fo p0 8 = .int x4) (hx5 : 0 ≤ x5.toInt ∧ x5.toInt ≤ 7) (pf5 : fld Fo p0 13 = .int x5) (hkf : KF x3 x5) : TMi l yX13_knownCell cX13_knownCell 2 (some .int) { frames := 3, cells := 0, slots := 0, locals := 67 } G ttC tag L Fo [.ref p0] (fun r F1 => (0 ≤ r.toInt ∧ r.toInt ≤ 143) ∧ ((∀ b j : Nat, (tag b ≠ 46 ∨ j ≠ 8) → (tag b ≠ 46 ∨ j ≠ 9) → (tag b ≠ 46 ∨ j ≠ 10) → (tag b ≠ 46 ∨ j ≠ 11) → (tag b ≠ 46 ∨ j ≠ 12) → (tag b ≠ 46 ∨ j ≠ 13) → (tag b ≠ 46 ∨ j ≠ 14) → (tag b ≠ 46 ∨ j ≠ 15) → fld F1 b j = fld Fo b j) ∧ (∀ b j : Nat, elm F1 b j = elm Fo b j)) ∧ (∃ so sp fa : Int32, fld F1 p0 9 = .int so ∧ fld F1 p0 8 = .int sp ∧ fld F1 p0 13 = .int fa ∧ (0 ≤ so.toInt ∧ so.toInt ≤ 5) ∧ (0 ≤ sp.toInt ∧ sp.toInt ≤ 1000) ∧ (0 ≤ fa.toInt ∧ fa.toInt ≤ 7) ∧ STK x3 so ∧ SPT x3 x4 so sp ∧ KF so fa)) := by
  refine t_bodyi (y := yX13_knownCell) (cd := cX13_knownCell) (mL := 2) (rt := (some .int)) (rm := { frames := 3, cells := 0, slots := 0, locals := 67 }) (av := [.ref p0]) (by decide) (Nat.le_of_ble_eq_true rfl) ho ?_
  intro p e s m args below meth c ls A Q hQ X hT hl
  have hx := X.1.1
  have hb := X.1.2.1
  have hl : lv_has ls 2 [(0, .ref p0)] := hl
  obtain ⟨F, hFo⟩ : ∃ F : Nat → va_E, F = Fo := ⟨_, rfl⟩
  rw [← hFo] at hT pf0 pf1 pf2 pf3 pf4 pf5
  have hfr : (∀ b j : Nat, (tag b ≠ 46 ∨ j ≠ 8) → (tag b ≠ 46 ∨ j ≠ 9) → (tag b ≠ 46 ∨ j ≠ 10) → (tag b ≠ 46 ∨ j ≠ 11) → (tag b ≠ 46 ∨ j ≠ 12) → (tag b ≠ 46 ∨ j ≠ 13) → (tag b ≠ 46 ∨ j ≠ 14) → (tag b ≠ 46 ∨ j ≠ 15) → fld F b j = fld Fo b j) ∧ (∀ b j : Nat, elm F b j = elm Fo b j) := by
    rw [hFo]
    exact ⟨by intros; rfl, by intros; rfl⟩
  have hstk : STK x3 x3 := STK.rf
  have hspt : SPT x3 x4 x3 x4 := SPT.rf
  refine lv_aload_n hx hb dX13_knownCell_0 rfl (lv_at hl 0 rfl) ?_
  refine lv_iconst (v := 0) hx hb dX13_knownCell_1 (by decide) ?_
  refine lv_aload_n hx hb dX13_knownCell_2 rfl (lv_at hl 0 rfl) ?_
  refine t_get (C := RX13) (T := TX13) (N := 37) X hT m0 g0 rfl rfl 4 (by decide) qw_477 inlX13 rfl dX13_knownCell_3 (fun v19390 hv19390 ov19390 => ?_)
  obtain rfl : v19390 = .ref x0 := hv19390.symm.trans pf0
  refine t_getN (C := RX12) (T := TX12) (N := 31) X hT mx0 gx0 rfl rfl 0 (by decide) (List.mem_of_getElem? (i := 4) rfl) inlX12 rfl dX13_knownCell_6 (fun v19391 hv19391 ov19391 => ?_)
  obtain ⟨z19392, rfl, rz19392⟩ := okV_i ov19391
  refine lv_iconst (v := 1) hx hb dX13_knownCell_9 (by decide) ?_
  refine lv_isub hx hb dX13_knownCell_10 ?_
  refine lv_topi (fun z19393 ez19393 => ?_)
  have hz19393 : z19393.toInt = z19392.toInt - 1 := ar_sub ez19393 (rfl : z19392.toInt = z19392.toInt) (by decide : (1 : Int32).toInt = 1) (by omega) (by omega)
  have rz19393 : (-1) ≤ z19393.toInt ∧ z19393.toInt ≤ 11 := by omega
  refine t_cVi (n := 2) (C := RX13) (T := TX13) (N := 37) (As := [.int 0, .int z19393]) (rest := []) X hT (km53_X13_readWhole l G tag L F hT.2.2.2 p0 0 z19393 x0 x1 x2 x3 x4 x5 m0 g0 (by decide) (by omega) mx0 gx0 pf0 mx1 gx1 pf1 mx2 gx2 pf2 (by omega) pf3 (by omega) pf4 (by omega) pf5 hkf) m0 g0 rfl rfl qw_560 qw_561 qw_562 qw_5 qw_563 ⟨rfl, by decide +kernel, by decide +kernel, by decide +kernel⟩ ⟨Nat.le_of_ble_eq_true rfl, Nat.le_of_ble_eq_true rfl⟩ hl rfl rfl (Nat.le_of_ble_eq_true rfl) dX13_knownCell_11 ⟨Nat.le_of_ble_eq_true rfl, Nat.le_of_ble_eq_true rfl⟩ (fun z19394 F H locs hT hz19394 => ?_)
  obtain ⟨hz19394, yz19394, ⟨soz19394, spz19394, faz19394, qsoz19394, qspz19394, qfaz19394, rsoz19394, rspz19394, rfaz19394, stz19394, ptz19394, hkf⟩⟩ := hz19394
  have pf0 := (yz19394.1 _ 4 (Or.inr (by decide)) (Or.inr (by decide)) (Or.inr (by decide)) (Or.inr (by decide)) (Or.inr (by decide)) (Or.inr (by decide)) (Or.inr (by decide)) (Or.inr (by decide))).trans pf0
  have pf1 := (yz19394.1 _ 28 (Or.inr (by decide)) (Or.inr (by decide)) (Or.inr (by decide)) (Or.inr (by decide)) (Or.inr (by decide)) (Or.inr (by decide)) (Or.inr (by decide)) (Or.inr (by decide))).trans pf1
  have pf2 := (yz19394.1 _ 29 (Or.inr (by decide)) (Or.inr (by decide)) (Or.inr (by decide)) (Or.inr (by decide)) (Or.inr (by decide)) (Or.inr (by decide)) (Or.inr (by decide)) (Or.inr (by decide))).trans pf2
  have hv19391 := (yz19394.1 _ 0 (Or.inr (by decide)) (Or.inr (by decide)) (Or.inr (by decide)) (Or.inr (by decide)) (Or.inr (by decide)) (Or.inr (by decide)) (Or.inr (by decide)) (Or.inr (by decide))).trans hv19391
  have hfr : (∀ b j : Nat, (tag b ≠ 46 ∨ j ≠ 8) → (tag b ≠ 46 ∨ j ≠ 9) → (tag b ≠ 46 ∨ j ≠ 10) → (tag b ≠ 46 ∨ j ≠ 11) → (tag b ≠ 46 ∨ j ≠ 12) → (tag b ≠ 46 ∨ j ≠ 13) → (tag b ≠ 46 ∨ j ≠ 14) → (tag b ≠ 46 ∨ j ≠ 15) → fld F b j = fld Fo b j) ∧ (∀ b j : Nat, elm F b j = elm Fo b j) := ⟨fun b j n46_8 n46_9 n46_10 n46_11 n46_12 n46_13 n46_14 n46_15 => (yz19394.1 b j n46_8 n46_9 n46_10 n46_11 n46_12 n46_13 n46_14 n46_15).trans (hfr.1 b j n46_8 n46_9 n46_10 n46_11 n46_12 n46_13 n46_14 n46_15), fun b j  => (yz19394.2 b j ).trans (hfr.2 b j )⟩
  have hstk := STK.tr hstk stz19394
  have hspt := SPT.tr hspt ptz19394
  refine lv_istore_n (lv' := [(1, .int z19394), (0, .ref p0)]) hx hb dX13_knownCell_14 rfl hl (by decide) rfl (fun ls hl => ?_)
  refine lv_aload_n hx hb dX13_knownCell_15 rfl (lv_at hl 1 rfl) ?_
  refine lv_bipush (v := 44) hx hb dX13_knownCell_16 (by decide) ?_
  refine t_cVv (n := 1) (C := RX13) (T := TX13) (N := 37) (As := [.int 44]) (rest := []) X hT (km54_X13_needsSign l G tag L F hT.2.2.2 p0 44 x0 x1 x2 soz19394 spz19394 faz19394 m0 g0 mx0 gx0 pf0 mx1 gx1 pf1 mx2 gx2 pf2 (by omega) qsoz19394 (by omega) qspz19394 (by omega) qfaz19394 hkf) m0 g0 rfl rfl qw_587 qw_588 qw_589 qw_5 qw_590 ⟨rfl, by decide +kernel, by decide +kernel, by decide +kernel⟩ ⟨Nat.le_of_ble_eq_true rfl, Nat.le_of_ble_eq_true rfl⟩ hl rfl rfl (Nat.le_of_ble_eq_true rfl) dX13_knownCell_18 ⟨Nat.le_of_ble_eq_true rfl, Nat.le_of_ble_eq_true rfl⟩ (fun F H locs hT hz19395 => ?_)
  obtain ⟨yz19395, ⟨soz19395, spz19395, faz19395, qsoz19395, qspz19395, qfaz19395, rsoz19395, rspz19395, rfaz19395, stz19395, ptz19395, hkf⟩⟩ := hz19395
  have pf0 := (yz19395.1 _ 4 (Or.inr (by decide)) (Or.inr (by decide)) (Or.inr (by decide)) (Or.inr (by decide)) (Or.inr (by decide)) (Or.inr (by decide)) (Or.inr (by decide)) (Or.inr (by decide))).trans pf0
  have pf1 := (yz19395.1 _ 28 (Or.inr (by decide)) (Or.inr (by decide)) (Or.inr (by decide)) (Or.inr (by decide)) (Or.inr (by decide)) (Or.inr (by decide)) (Or.inr (by decide)) (Or.inr (by decide))).trans pf1
  have pf2 := (yz19395.1 _ 29 (Or.inr (by decide)) (Or.inr (by decide)) (Or.inr (by decide)) (Or.inr (by decide)) (Or.inr (by decide)) (Or.inr (by decide)) (Or.inr (by decide)) (Or.inr (by decide))).trans pf2
  have hv19391 := (yz19395.1 _ 0 (Or.inr (by decide)) (Or.inr (by decide)) (Or.inr (by decide)) (Or.inr (by decide)) (Or.inr (by decide)) (Or.inr (by decide)) (Or.inr (by decide)) (Or.inr (by decide))).trans hv19391
  have hfr : (∀ b j : Nat, (tag b ≠ 46 ∨ j ≠ 8) → (tag b ≠ 46 ∨ j ≠ 9) → (tag b ≠ 46 ∨ j ≠ 10) → (tag b ≠ 46 ∨ j ≠ 11) → (tag b ≠ 46 ∨ j ≠ 12) → (tag b ≠ 46 ∨ j ≠ 13) → (tag b ≠ 46 ∨ j ≠ 14) → (tag b ≠ 46 ∨ j ≠ 15) → fld F b j = fld Fo b j) ∧ (∀ b j : Nat, elm F b j = elm Fo b j) := ⟨fun b j n46_8 n46_9 n46_10 n46_11 n46_12 n46_13 n46_14 n46_15 => (yz19395.1 b j n46_8 n46_9 n46_10 n46_11 n46_12 n46_13 n46_14 n46_15).trans (hfr.1 b j n46_8 n46_9 n46_10 n46_11 n46_12 n46_13 n46_14 n46_15), fun b j  => (yz19395.2 b j ).trans (hfr.2 b j )⟩
  have hstk := STK.tr hstk stz19395
  have hspt := SPT.tr hspt ptz19395
  refine lv_aload_n hx hb dX13_knownCell_21 rfl (lv_at hl 1 rfl) ?_
  refine t_get (C := RX13) (T := TX13) (N := 37) X hT m0 g0 rfl rfl 4 (by decide) qw_477 inlX13 rfl dX13_knownCell_22 (fun v19396 hv19396 ov19396 => ?_)
  obtain rfl : v19396 = .ref x0 := hv19396.symm.trans pf0
  refine t_getN (C := RX12) (T := TX12) (N := 31) X hT mx0 gx0 rfl rfl 0 (by decide) (List.mem_of_getElem? (i := 4) rfl) inlX12 rfl dX13_knownCell_25 (fun v19397 hv19397 ov19397 => ?_)
  obtain rfl : v19397 = .int z19392 := hv19397.symm.trans hv19391
  refine lv_aload_n hx hb dX13_knownCell_28 rfl (lv_at hl 1 rfl) ?_
  refine lv_iconst (v := 0) hx hb dX13_knownCell_29 (by decide) ?_
  refine lv_aload_n hx hb dX13_knownCell_30 rfl (lv_at hl 1 rfl) ?_
  refine t_get (C := RX13) (T := TX13) (N := 37) X hT m0 g0 rfl rfl 4 (by decide) qw_477 inlX13 rfl dX13_knownCell_31 (fun v19398 hv19398 ov19398 => ?_)
  obtain rfl : v19398 = .ref x0 := hv19398.symm.trans pf0
  refine t_getN (C := RX12) (T := TX12) (N := 31) X hT mx0 gx0 rfl rfl 1 (by decide) (List.mem_of_getElem? (i := 5) rfl) inlX12 rfl dX13_knownCell_34 (fun v19399 hv19399 ov19399 => ?_)
  obtain ⟨z19400, rfl, rz19400⟩ := okV_i ov19399
  refine lv_iconst (v := 1) hx hb dX13_knownCell_37 (by decide) ?_
  refine lv_isub hx hb dX13_knownCell_38 ?_
  refine lv_topi (fun z19401 ez19401 => ?_)
  have hz19401 : z19401.toInt = z19400.toInt - 1 := ar_sub ez19401 (rfl : z19400.toInt = z19400.toInt) (by decide : (1 : Int32).toInt = 1) (by omega) (by omega)
  have rz19401 : (-1) ≤ z19401.toInt ∧ z19401.toInt ≤ 11 := by omega
  refine t_cVi (n := 2) (C := RX13) (T := TX13) (N := 37) (As := [.int 0, .int z19401]) (rest := [.int z19392]) X hT (km52_X13_bounded l G tag L F hT.2.2.2 p0 0 z19401 x0 x1 x2 soz19395 spz19395 faz19395 m0 g0 (by decide) (by omega) mx0 gx0 pf0 mx1 gx1 pf1 mx2 gx2 pf2 (by omega) qsoz19395 (by omega) qspz19395 (by omega) qfaz19395 hkf) m0 g0 rfl rfl qw_564 qw_565 qw_566 qw_5 qw_567 ⟨rfl, by decide +kernel, by decide +kernel, by decide +kernel⟩ ⟨Nat.le_of_ble_eq_true rfl, Nat.le_of_ble_eq_true rfl⟩ hl rfl rfl (Nat.le_of_ble_eq_true rfl) dX13_knownCell_39 ⟨Nat.le_of_ble_eq_true rfl, Nat.le_of_ble_eq_true rfl⟩ (fun z19402 F H locs hT hz19402 => ?_)
  obtain ⟨hz19402, yz19402, ⟨soz19402, spz19402, faz19402, qsoz19402, qspz19402, qfaz19402, rsoz19402, rspz19402, rfaz19402, stz19402, ptz19402, hkf⟩⟩ := hz19402
  have pf0 := (yz19402.1 _ 4 (Or.inr (by decide)) (Or.inr (by decide)) (Or.inr (by decide))).trans pf0
  have pf1 := (yz19402.1 _ 28 (Or.inr (by decide)) (Or.inr (by decide)) (Or.inr (by decide))).trans pf1
  have pf2 := (yz19402.1 _ 29 (Or.inr (by decide)) (Or.inr (by decide)) (Or.inr (by decide))).trans pf2
  have hv19391 := (yz19402.1 _ 0 (Or.inr (by decide)) (Or.inr (by decide)) (Or.inr (by decide))).trans hv19391
  have qspz19395 := (yz19402.1 _ 8 (Or.inr (by decide)) (Or.inr (by decide)) (Or.inr (by decide))).trans qspz19395
  have hv19399 := (yz19402.1 _ 1 (Or.inr (by decide)) (Or.inr (by decide)) (Or.inr (by decide))).trans hv19399
  have hfr : (∀ b j : Nat, (tag b ≠ 46 ∨ j ≠ 8) → (tag b ≠ 46 ∨ j ≠ 9) → (tag b ≠ 46 ∨ j ≠ 10) → (tag b ≠ 46 ∨ j ≠ 11) → (tag b ≠ 46 ∨ j ≠ 12) → (tag b ≠ 46 ∨ j ≠ 13) → (tag b ≠ 46 ∨ j ≠ 14) → (tag b ≠ 46 ∨ j ≠ 15) → fld F b j = fld Fo b j) ∧ (∀ b j : Nat, elm F b j = elm Fo b j) := ⟨fun b j n46_8 n46_9 n46_10 n46_11 n46_12 n46_13 n46_14 n46_15 => (yz19402.1 b j n46_9 n46_13 n46_14).trans (hfr.1 b j n46_8 n46_9 n46_10 n46_11 n46_12 n46_13 n46_14 n46_15), fun b j  => (yz19402.2 b j ).trans (hfr.2 b j )⟩
  have hstk := STK.tr hstk stz19402
  have hspt := SPT.tr hspt ptz19402
  refine lv_imul hx hb dX13_knownCell_42 ?_
  refine lv_topi (fun z19403 ez19403 => ?_)
  have rz19403 : 0 ≤ z19403.toInt ∧ z19403.toInt ≤ 132 := ar_mulb ez19403 (A := 12) (B := 11) (by omega) (by omega) (by decide) (by decide)
  refine lv_iload_n hx hb dX13_knownCell_43 rfl (lv_at hl 0 rfl) ?_
  refine lv_iadd hx hb dX13_knownCell_44 ?_
  refine lv_topi (fun z19404 ez19404 => ?_)
  have hz19404 : z19404.toInt = z19403.toInt + z19394.toInt := ar_add ez19404 (rfl : z19403.toInt = z19403.toInt) (rfl : z19394.toInt = z19394.toInt) (by omega) (by omega)
  have rz19404 : 0 ≤ z19404.toInt ∧ z19404.toInt ≤ 143 := by omega
  exact t_iret hQ X hT (⟨(by omega), hfr, ⟨soz19402, spz19402, faz19402, qsoz19402, qspz19402, qfaz19402, (by omega), (by omega), (by omega), hstk, hspt, hkf⟩⟩) (Nat.le_of_ble_eq_true rfl) (Nat.le_of_ble_eq_true rfl) dX13_knownCell_45
set_option maxHeartbeats 4000000 in
set_option maxRecDepth 100000 in
theorem km56_X13_readPart (l : Launch) (G : KG) (tag : Nat → Nat) (L : List Nat) (Fo : Nat → va_E) (ho : okT G ttC tag L Fo) (p0 : Nat) (p1 : Nat) (p2 : Int32) (p3 : Int32) (x0 : Nat) (x1 : Nat) (x2 : Nat) (x3 : Int32) (x4 : Int32) (x5 : Int32) (m0 : p0 ∈ L) (g0 : tag p0 = 46) (h1 : p1 < 77) (h2 : 0 ≤ p2.toInt ∧ p2.toInt ≤ 0) (h3 : 999 ≤ p3.toInt ∧ p3.toInt ≤ 999) (mx0 : x0 ∈ L) (gx0 : tag x0 = 44) (pf0 : fld Fo p0 4 = .ref x0) (mx1 : x1 ∈ L) (gx1 : tag x1 = 35) (pf1 : fld Fo x0 28 = .ref x1) (mx2 : x2 ∈ L) (gx2 : tag x2 = 36) (pf2 : fld Fo x0 29 = .ref x2) (hx3 : 0 ≤ x3.toInt ∧ x3.toInt ≤ 5) (pf3 : fld Fo p0 9 = .int x3) (hx4 : 0 ≤ x4.toInt ∧ x4.toInt ≤ 1000) (pf4 : fld Fo p0 8 = .int x4) (hx5 : 0 ≤ x5.toInt ∧ x5.toInt ≤ 7) (pf5 : fld Fo p0 13 = .int x5) (hkf : KF x3 x5) : TMi l yX13_readPart cX13_readPart 4 (some .int) { frames := 7, cells := 0, slots := 0, locals := 150 } G ttC tag L Fo [.ref p0, .ref (G.2 (100 + p1)), .int p2, .int p3] (fun r F1 => (0 ≤ r.toInt ∧ r.toInt ≤ 999) ∧ ((∀ b j : Nat, (tag b ≠ 46 ∨ j ≠ 8) → (tag b ≠ 46 ∨ j ≠ 9) → (tag b ≠ 46 ∨ j ≠ 10) → (tag b ≠ 46 ∨ j ≠ 11) → (tag b ≠ 46 ∨ j ≠ 12) → (tag b ≠ 46 ∨ j ≠ 13) → (tag b ≠ 46 ∨ j ≠ 14) → (tag b ≠ 46 ∨ j ≠ 15) → fld F1 b j = fld Fo b j) ∧ (∀ b j : Nat, elm F1 b j = elm Fo b j)) ∧ (∃ so sp fa : Int32, fld F1 p0 9 = .int so ∧ fld F1 p0 8 = .int sp ∧ fld F1 p0 13 = .int fa ∧ (0 ≤ so.toInt ∧ so.toInt ≤ 5) ∧ (0 ≤ sp.toInt ∧ sp.toInt ≤ 1000) ∧ (0 ≤ fa.toInt ∧ fa.toInt ≤ 7) ∧ STK x3 so ∧ SPT x3 x4 so sp ∧ KF so fa)) := by
  refine t_bodyi (y := yX13_readPart) (cd := cX13_readPart) (mL := 4) (rt := (some .int)) (rm := { frames := 7, cells := 0, slots := 0, locals := 150 }) (av := [.ref p0, .ref (G.2 (100 + p1)), .int p2, .int p3]) (by decide) (Nat.le_of_ble_eq_true rfl) ho ?_
  intro p e s m args below meth c ls A Q hQ X hT hl
  have hx := X.1.1
  have hb := X.1.2.1
  have hl : lv_has ls 4 [(0, .ref p0), (1, .ref (G.2 (100 + p1))), (2, .int p2), (3, .int p3)] := hl
  obtain ⟨F, hFo⟩ : ∃ F : Nat → va_E, F = Fo := ⟨_, rfl⟩
  rw [← hFo] at hT pf0 pf1 pf2 pf3 pf4 pf5
  have hfr : (∀ b j : Nat, (tag b ≠ 46 ∨ j ≠ 8) → (tag b ≠ 46 ∨ j ≠ 9) → (tag b ≠ 46 ∨ j ≠ 10) → (tag b ≠ 46 ∨ j ≠ 11) → (tag b ≠ 46 ∨ j ≠ 12) → (tag b ≠ 46 ∨ j ≠ 13) → (tag b ≠ 46 ∨ j ≠ 14) → (tag b ≠ 46 ∨ j ≠ 15) → fld F b j = fld Fo b j) ∧ (∀ b j : Nat, elm F b j = elm Fo b j) := by
    rw [hFo]
    exact ⟨by intros; rfl, by intros; rfl⟩
  have hstk : STK x3 x3 := STK.rf
  have hspt : SPT x3 x4 x3 x4 := SPT.rf
  refine lv_aload_n hx hb dX13_readPart_0 rfl (lv_at hl 0 rfl) ?_
  refine lv_aload_n hx hb dX13_readPart_1 rfl (lv_at hl 1 rfl) ?_
  refine t_cVv (n := 1) (C := RX13) (T := TX13) (N := 37) (As := [.ref (G.2 (100 + p1))]) (rest := []) X hT (km40_X13_needs l G tag L F hT.2.2.2 p0 p1 x0 x1 x2 x3 x4 x5 m0 g0 h1 mx0 gx0 pf0 mx1 gx1 pf1 mx2 gx2 pf2 (by omega) pf3 (by omega) pf4 (by omega) pf5 hkf) m0 g0 rfl rfl qw_556 qw_557 qw_558 qw_5 qw_559 ⟨rfl, by decide +kernel, by decide +kernel, by decide +kernel⟩ ⟨Nat.le_of_ble_eq_true rfl, Nat.le_of_ble_eq_true rfl⟩ hl rfl rfl (Nat.le_of_ble_eq_true rfl) dX13_readPart_2 ⟨Nat.le_of_ble_eq_true rfl, Nat.le_of_ble_eq_true rfl⟩ (fun F H locs hT hz19435 => ?_)
  obtain ⟨yz19435, ⟨soz19435, spz19435, faz19435, qsoz19435, qspz19435, qfaz19435, rsoz19435, rspz19435, rfaz19435, stz19435, ptz19435, hkf⟩⟩ := hz19435
  have pf0 := (yz19435.1 _ 4 (Or.inr (by decide)) (Or.inr (by decide)) (Or.inr (by decide)) (Or.inr (by decide)) (Or.inr (by decide)) (Or.inr (by decide)) (Or.inr (by decide)) (Or.inr (by decide))).trans pf0
  have pf1 := (yz19435.1 _ 28 (Or.inr (by decide)) (Or.inr (by decide)) (Or.inr (by decide)) (Or.inr (by decide)) (Or.inr (by decide)) (Or.inr (by decide)) (Or.inr (by decide)) (Or.inr (by decide))).trans pf1
  have pf2 := (yz19435.1 _ 29 (Or.inr (by decide)) (Or.inr (by decide)) (Or.inr (by decide)) (Or.inr (by decide)) (Or.inr (by decide)) (Or.inr (by decide)) (Or.inr (by decide)) (Or.inr (by decide))).trans pf2
  have hfr : (∀ b j : Nat, (tag b ≠ 46 ∨ j ≠ 8) → (tag b ≠ 46 ∨ j ≠ 9) → (tag b ≠ 46 ∨ j ≠ 10) → (tag b ≠ 46 ∨ j ≠ 11) → (tag b ≠ 46 ∨ j ≠ 12) → (tag b ≠ 46 ∨ j ≠ 13) → (tag b ≠ 46 ∨ j ≠ 14) → (tag b ≠ 46 ∨ j ≠ 15) → fld F b j = fld Fo b j) ∧ (∀ b j : Nat, elm F b j = elm Fo b j) := ⟨fun b j n46_8 n46_9 n46_10 n46_11 n46_12 n46_13 n46_14 n46_15 => (yz19435.1 b j n46_8 n46_9 n46_10 n46_11 n46_12 n46_13 n46_14 n46_15).trans (hfr.1 b j n46_8 n46_9 n46_10 n46_11 n46_12 n46_13 n46_14 n46_15), fun b j  => (yz19435.2 b j ).trans (hfr.2 b j )⟩
  have hstk := STK.tr hstk stz19435
  have hspt := SPT.tr hspt ptz19435
  refine lv_aload_n hx hb dX13_readPart_5 rfl (lv_at hl 0 rfl) ?_
  refine lv_iload_n hx hb dX13_readPart_6 rfl (lv_at hl 2 rfl) ?_
  refine lv_iload_n hx hb dX13_readPart_7 rfl (lv_at hl 3 rfl) ?_
  refine t_cVi (n := 2) (C := RX13) (T := TX13) (N := 37) (As := [.int p2, .int p3]) (rest := []) X hT (km21_X13_readWhole l G tag L F hT.2.2.2 p0 p2 p3 x0 x1 x2 soz19435 spz19435 faz19435 m0 g0 (by omega) (by omega) mx0 gx0 pf0 mx1 gx1 pf1 mx2 gx2 pf2 (by omega) qsoz19435 (by omega) qspz19435 (by omega) qfaz19435 hkf) m0 g0 rfl rfl qw_560 qw_561 qw_562 qw_5 qw_563 ⟨rfl, by decide +kernel, by decide +kernel, by decide +kernel⟩ ⟨Nat.le_of_ble_eq_true rfl, Nat.le_of_ble_eq_true rfl⟩ hl rfl rfl (Nat.le_of_ble_eq_true rfl) dX13_readPart_8 ⟨Nat.le_of_ble_eq_true rfl, Nat.le_of_ble_eq_true rfl⟩ (fun z19436 F H locs hT hz19436 => ?_)
  obtain ⟨hz19436, yz19436, ⟨soz19436, spz19436, faz19436, qsoz19436, qspz19436, qfaz19436, rsoz19436, rspz19436, rfaz19436, stz19436, ptz19436, hkf⟩⟩ := hz19436
  have pf0 := (yz19436.1 _ 4 (Or.inr (by decide)) (Or.inr (by decide)) (Or.inr (by decide)) (Or.inr (by decide)) (Or.inr (by decide)) (Or.inr (by decide)) (Or.inr (by decide)) (Or.inr (by decide))).trans pf0
  have pf1 := (yz19436.1 _ 28 (Or.inr (by decide)) (Or.inr (by decide)) (Or.inr (by decide)) (Or.inr (by decide)) (Or.inr (by decide)) (Or.inr (by decide)) (Or.inr (by decide)) (Or.inr (by decide))).trans pf1
  have pf2 := (yz19436.1 _ 29 (Or.inr (by decide)) (Or.inr (by decide)) (Or.inr (by decide)) (Or.inr (by decide)) (Or.inr (by decide)) (Or.inr (by decide)) (Or.inr (by decide)) (Or.inr (by decide))).trans pf2
  have hfr : (∀ b j : Nat, (tag b ≠ 46 ∨ j ≠ 8) → (tag b ≠ 46 ∨ j ≠ 9) → (tag b ≠ 46 ∨ j ≠ 10) → (tag b ≠ 46 ∨ j ≠ 11) → (tag b ≠ 46 ∨ j ≠ 12) → (tag b ≠ 46 ∨ j ≠ 13) → (tag b ≠ 46 ∨ j ≠ 14) → (tag b ≠ 46 ∨ j ≠ 15) → fld F b j = fld Fo b j) ∧ (∀ b j : Nat, elm F b j = elm Fo b j) := ⟨fun b j n46_8 n46_9 n46_10 n46_11 n46_12 n46_13 n46_14 n46_15 => (yz19436.1 b j n46_8 n46_9 n46_10 n46_11 n46_12 n46_13 n46_14 n46_15).trans (hfr.1 b j n46_8 n46_9 n46_10 n46_11 n46_12 n46_13 n46_14 n46_15), fun b j  => (yz19436.2 b j ).trans (hfr.2 b j )⟩
  have hstk := STK.tr hstk stz19436
  have hspt := SPT.tr hspt ptz19436
  exact t_iret hQ X hT (⟨(by omega), hfr, ⟨soz19436, spz19436, faz19436, qsoz19436, qspz19436, qfaz19436, (by omega), (by omega), (by omega), hstk, hspt, hkf⟩⟩) (Nat.le_of_ble_eq_true rfl) (Nat.le_of_ble_eq_true rfl) dX13_readPart_11
set_option maxHeartbeats 4000000 in
set_option maxRecDepth 100000 in
theorem km57_X13_ownersOf (l : Launch) (G : KG) (tag : Nat → Nat) (L : List Nat) (F : Nat → va_E) (ho : okT G ttC tag L F) (p0 : Nat) (p1 : Nat) (p2 : Int32) (p3 : Int32) (x0 : Int32) (m0 : p0 ∈ L) (g0 : tag p0 = 44) (m1 : p1 ∈ L) (g1 : tag p1 = 37) (hx0 : 1 ≤ x0.toInt ∧ x0.toInt ≤ 12) (pf0 : fld F p0 0 = .int x0) : TMi l yX13_ownersOf cX13_ownersOf 6 (some .int) { frames := 2, cells := 0, slots := 0, locals := 46 } G ttC tag L F [.ref p0, .ref p1, .int p2, .int p3] (fun r F1 => F1 = F ∧ (0 ≤ r.toInt ∧ r.toInt ≤ 15)) := by
  refine t_bodyi (y := yX13_ownersOf) (cd := cX13_ownersOf) (mL := 6) (rt := (some .int)) (rm := { frames := 2, cells := 0, slots := 0, locals := 46 }) (av := [.ref p0, .ref p1, .int p2, .int p3]) (by decide) (Nat.le_of_ble_eq_true rfl) ho ?_
  intro p e s m args below meth c ls A Q hQ X hT hl
  have hx := X.1.1
  have hb := X.1.2.1
  have hl : lv_has ls 6 [(0, .ref p0), (1, .ref p1), (2, .int p2), (3, .int p3)] := hl
  have rp2 := rg_all p2
  have rp3 := rg_all p3
  have K6 : ∀ (n : Nat) (z19694 : Int32) (z19695 : Int32) (z19696 : Int32) (H : Heap) (locs : List Loc) (ls : Array Slot), (4 - z19695.toInt < (n : Int)) → (0 ≤ z19694.toInt ∧ z19694.toInt ≤ 15) → (0 ≤ z19695.toInt ∧ z19695.toInt ≤ 4) → (1 ≤ z19696.toInt ∧ z19696.toInt ≤ 12) → TH G ttC A s tag L F H locs → (fld F p0 0 = .int z19696) → lv_has ls 6 [(0, .ref p0), (1, .ref p1), (2, .int p2), (3, .int p3), (4, .int z19694), (5, .int z19695)] → W p l e { frames := 2, cells := 0, slots := 0, locals := 46 } s m args below meth c H locs 0 0 Q (F0 m 6 ls []) := by
    intro n
    induction n with
    | zero =>
      intro z19694 z19695 z19696 H locs ls hn rz19694 rz19695 rz19696 hT qz19696 hl
      exfalso
      omega
    | succ n ih6 =>
      intro z19694 z19695 z19696 H locs ls hn rz19694 rz19695 rz19696 hT qz19696 hl
      have K42 : ∀ (z19698 : Int32) (z19699 : Int32) (z19700 : Int32) (z19701 : Int32) (H : Heap) (locs : List Loc) (ls : Array Slot), (0 ≤ z19698.toInt ∧ z19698.toInt ≤ 8) → (0 ≤ z19699.toInt ∧ z19699.toInt ≤ 15) → (1 ≤ z19700.toInt ∧ z19700.toInt ≤ 12) → (1 ≤ z19701.toInt ∧ z19701.toInt ≤ 4) → (0 ≤ z19695.toInt ∧ z19695.toInt ≤ 3) → TH G ttC A s tag L F H locs → (fld F p0 0 = .int z19700) → (fld F p0 8 = .int z19701) → lv_has ls 6 [(0, .ref p0), (1, .ref p1), (2, .int p2), (3, .int p3), (4, .int z19694), (5, .int z19695)] → W p l e { frames := 2, cells := 0, slots := 0, locals := 46 } s m args below meth c H locs 0 0 Q (F0 m 42 ls [.int z19698, .int z19699]) := by
        intro z19698 z19699 z19700 z19701 H locs ls rz19698 rz19699 rz19700 rz19701 r9s19697 hT qz19700 qz19701 hl
        refine lv_ior hx hb dX13_ownersOf_42 ?_
        refine lv_topi (fun z19702 ez19702 => ?_)
        have rz19702 : 0 ≤ z19702.toInt ∧ z19702.toInt ≤ 15 := ar_or ez19702 4 (by omega) (by omega) (by decide)
        refine lv_istore (lv' := [(4, .int z19702), (0, .ref p0), (1, .ref p1), (2, .int p2), (3, .int p3), (5, .int z19695)]) hx hb dX13_ownersOf_43 hl (by decide) rfl (fun ls hl => ?_)
        obtain ⟨z19703, ez19703⟩ : ∃ y : Int32, y = z19695 + 1 := ⟨_, rfl⟩
        have hz19703 : z19703.toInt = z19695.toInt + 1 := ar_add ez19703 rfl (by decide : (1 : Int32).toInt = 1) (by omega) (by omega)
        refine lv_iinc (v := z19703) (lv' := [(5, .int z19703), (4, .int z19702), (0, .ref p0), (1, .ref p1), (2, .int p2), (3, .int p3)]) hx hb dX13_ownersOf_45 hl (k := 5) rfl (by rw [ez19703]; rfl) (by decide) rfl (fun ls hl => ?_)
        refine lv_goto (tgt := 6) hx hb dX13_ownersOf_48 (by decide) ?_
        exact ih6 z19702 z19703 z19700 _ _ _ (by omega) (by omega) (by omega) (by omega) hT qz19700 (lv_sub hl [2, 3, 4, 5, 1, 0] rfl)
      refine lv_iload hx hb dX13_ownersOf_6 (lv_at hl 5 rfl) ?_
      refine lv_aload_n hx hb dX13_ownersOf_8 rfl (lv_at hl 0 rfl) ?_
      refine t_getN (C := RX12) (T := TX12) (N := 31) X hT m0 g0 rfl rfl 8 (by decide) (List.mem_of_getElem? (i := 12) rfl) inlX12 rfl dX13_ownersOf_9 (fun v19704 hv19704 ov19704 => ?_)
      obtain ⟨z19705, rfl, rz19705⟩ := okV_i ov19704
      refine lv_icmp_ge (tgt := 51) hx hb dX13_ownersOf_12 (by decide) (fun c19706 => ?_) (fun c19706 => ?_)
      · have w19707 := cv_le (rfl : z19705.toInt = z19705.toInt) (rfl : z19695.toInt = z19695.toInt) c19706
        refine lv_iload hx hb dX13_ownersOf_51 (lv_at hl 4 rfl) ?_
        exact t_iret hQ X hT (⟨rfl, (by omega)⟩) (Nat.le_of_ble_eq_true rfl) (Nat.le_of_ble_eq_true rfl) dX13_ownersOf_53
      · have w19708 := cv_nle (rfl : z19705.toInt = z19705.toInt) (rfl : z19695.toInt = z19695.toInt) c19706
        refine lv_iload hx hb dX13_ownersOf_15 (lv_at hl 4 rfl) ?_
        refine lv_aload_n hx hb dX13_ownersOf_17 rfl (lv_at hl 0 rfl) ?_
        refine lv_iload hx hb dX13_ownersOf_18 (lv_at hl 5 rfl) ?_
        refine lv_iload_n hx hb dX13_ownersOf_20 rfl (lv_at hl 2 rfl) ?_
        refine lv_iload_n hx hb dX13_ownersOf_21 rfl (lv_at hl 3 rfl) ?_
        refine t_cVi (n := 3) (C := RX12) (T := TX12) (N := 31) (As := [.int z19695, .int p2, .int p3]) (rest := [.int z19694]) X hT (km46_X12_far l G tag L F hT.2.2.2 p0 z19695 p2 p3 z19696 m0 g0 (by omega) (by omega) qz19696) m0 g0 rfl rfl qw_619 qw_620 qw_621 qw_476 qw_622 ⟨rfl, by decide +kernel, by decide +kernel, by decide +kernel⟩ ⟨Nat.le_of_ble_eq_true rfl, Nat.le_of_ble_eq_true rfl⟩ hl rfl rfl (Nat.le_of_ble_eq_true rfl) dX13_ownersOf_22 ⟨Nat.le_of_ble_eq_true rfl, Nat.le_of_ble_eq_true rfl⟩ (fun z19709 F9 H locs hT hz19709 => ?_)
        obtain ⟨fz19709, hz19709⟩ := hz19709
        rw [fz19709] at hT
        refine lv_aload_n hx hb dX13_ownersOf_25 rfl (lv_at hl 1 rfl) ?_
        refine lv_iconst (v := 0) hx hb dX13_ownersOf_26 (by decide) ?_
        refine lv_iload hx hb dX13_ownersOf_27 (lv_at hl 5 rfl) ?_
        refine lv_iadd hx hb dX13_ownersOf_29 ?_
        refine lv_topi (fun z19710 ez19710 => ?_)
        obtain rfl : z19695 = z19710 := (ar_zadd ez19710).symm
        refine t_ild X hT m1 g1 rfl (by omega) dX13_ownersOf_30 (fun z19711 vz19711 rz19711 => ?_)
        have rz19711 := row_ml (by omega) rz19711
        refine lv_icmp_gt (tgt := 41) hx hb dX13_ownersOf_31 (by decide) (fun c19712 => ?_) (fun c19712 => ?_)
        · have w19713 := cv_lt (rfl : z19711.toInt = z19711.toInt) (rfl : z19709.toInt = z19709.toInt) c19712
          refine lv_iconst (v := 0) hx hb dX13_ownersOf_41 (by decide) ?_
          have k19714 : (0 : Int32).toInt = 0 := by decide
          exact K42 0 z19694 z19696 z19705 _ _ _ (by decide) (by omega) (by omega) (by omega) (by omega) hT qz19696 hv19704 (lv_sub hl [0, 1, 2, 3, 4, 5] rfl)
        · have w19715 := cv_nlt (rfl : z19711.toInt = z19711.toInt) (rfl : z19709.toInt = z19709.toInt) c19712
          refine lv_iconst (v := 1) hx hb dX13_ownersOf_34 (by decide) ?_
          refine lv_iload hx hb dX13_ownersOf_35 (lv_at hl 5 rfl) ?_
          refine lv_ishl hx hb dX13_ownersOf_37 ?_
          refine lv_topi (fun z19716 ez19716 => ?_)
          have hz19716 := ar_shl3 ez19716 (by omega)
          have rz19716 : 1 ≤ z19716.toInt ∧ z19716.toInt ≤ 8 := by omega
          refine lv_goto (tgt := 42) hx hb dX13_ownersOf_38 (by decide) ?_
          exact K42 z19716 z19694 z19696 z19705 _ _ _ (by omega) (by omega) (by omega) (by omega) (by omega) hT qz19696 hv19704 (lv_sub hl [0, 1, 2, 3, 4, 5] rfl)
  refine lv_iconst (v := 0) hx hb dX13_ownersOf_0 (by decide) ?_
  refine lv_istore (lv' := [(4, .int 0), (0, .ref p0), (1, .ref p1), (2, .int p2), (3, .int p3)]) hx hb dX13_ownersOf_1 hl (by decide) rfl (fun ls hl => ?_)
  refine lv_iconst (v := 0) hx hb dX13_ownersOf_3 (by decide) ?_
  refine lv_istore (lv' := [(5, .int 0), (4, .int 0), (0, .ref p0), (1, .ref p1), (2, .int p2), (3, .int p3)]) hx hb dX13_ownersOf_4 hl (by decide) rfl (fun ls hl => ?_)
  have k19717 : (0 : Int32).toInt = 0 := by decide
  have k19718 : (0 : Int32).toInt = 0 := by decide
  exact K6 5 0 0 x0 _ _ _ (by omega) (by decide) (by decide) (by omega) hT pf0 (lv_sub hl [2, 3, 4, 5, 1, 0] rfl)
set_option maxHeartbeats 4000000 in
set_option maxRecDepth 100000 in
theorem km58_X13_names (l : Launch) (G : KG) (tag : Nat → Nat) (L : List Nat) (Fo : Nat → va_E) (ho : okT G ttC tag L Fo) (p0 : Nat) (p1 : Int64) (p2 : Int32) (p3 : Int32) (x0 : Nat) (x1 : Nat) (x2 : Nat) (x3 : Int32) (m0 : p0 ∈ L) (g0 : tag p0 = 46) (h2 : 1 ≤ p2.toInt ∧ p2.toInt ≤ 1) (h3 : 0 ≤ p3.toInt ∧ p3.toInt ≤ 3) (mx0 : x0 ∈ L) (gx0 : tag x0 = 44) (pf0 : fld Fo p0 4 = .ref x0) (mx1 : x1 ∈ L) (gx1 : tag x1 = 35) (pf1 : fld Fo x0 28 = .ref x1) (mx2 : x2 ∈ L) (gx2 : tag x2 = 36) (pf2 : fld Fo x0 29 = .ref x2) (hx3 : 0 ≤ x3.toInt ∧ x3.toInt ≤ 31) (pf3 : fld Fo x0 12 = .int x3) (hrel : MSR Fo x1 x2) : TMv l yX13_names cX13_names 5 { frames := 0, cells := 0, slots := 0, locals := 0 } G ttC tag L Fo [.ref p0, .long p1, .int p2, .int p3] (fun F1 => ((∀ b j : Nat, (tag b ≠ 44 ∨ j ≠ 12) → fld F1 b j = fld Fo b j) ∧ (∀ b j : Nat, tag b ≠ 34 → tag b ≠ 35 → tag b ≠ 36 → elm F1 b j = elm Fo b j)) ∧ (MSR F1 x1 x2) ∧ (∃ z : Int32, fld F1 x0 12 = .int z ∧ z.toInt = x3.toInt + 1)) := by
  refine t_bodyv (y := yX13_names) (cd := cX13_names) (mL := 5) (rm := { frames := 0, cells := 0, slots := 0, locals := 0 }) (av := [.ref p0, .long p1, .int p2, .int p3]) (by decide) (Nat.le_of_ble_eq_true rfl) ho ?_
  intro p e s m args below meth c ls A Q hQ X hT hl
  have hx := X.1.1
  have hb := X.1.2.1
  have hl : lv_has ls 5 [(0, .ref p0), (1, .long p1), (3, .int p2), (4, .int p3)] := hl
  obtain ⟨F, hFo⟩ : ∃ F : Nat → va_E, F = Fo := ⟨_, rfl⟩
  rw [← hFo] at hT pf0 pf1 pf2 pf3 hrel
  have hfr : (∀ b j : Nat, (tag b ≠ 44 ∨ j ≠ 12) → fld F b j = fld Fo b j) ∧ (∀ b j : Nat, tag b ≠ 34 → tag b ≠ 35 → tag b ≠ 36 → elm F b j = elm Fo b j) := by
    rw [hFo]
    exact ⟨by intros; rfl, by intros; rfl⟩
  refine lv_aload_n hx hb dX13_names_0 rfl (lv_at hl 0 rfl) ?_
  refine t_get (C := RX13) (T := TX13) (N := 37) X hT m0 g0 rfl rfl 4 (by decide) qw_477 inlX13 rfl dX13_names_1 (fun v19955 hv19955 ov19955 => ?_)
  obtain rfl : v19955 = .ref x0 := hv19955.symm.trans pf0
  refine t_getN (C := RX12) (T := TX12) (N := 31) X hT mx0 gx0 rfl rfl 27 (by decide) (List.mem_of_getElem? (i := 31) rfl) inlX12 rfl dX13_names_4 (fun v19956 hv19956 ov19956 => ?_)
  obtain ⟨b19957, rfl, mb19957, gb19957⟩ := okV_r ov19956
  have gb19957 : tag b19957 = 34 := tg_of gb19957
  refine lv_aload_n hx hb dX13_names_7 rfl (lv_at hl 0 rfl) ?_
  refine t_get (C := RX13) (T := TX13) (N := 37) X hT m0 g0 rfl rfl 4 (by decide) qw_477 inlX13 rfl dX13_names_8 (fun v19958 hv19958 ov19958 => ?_)
  obtain rfl : v19958 = .ref x0 := hv19958.symm.trans pf0
  refine t_getN (C := RX12) (T := TX12) (N := 31) X hT mx0 gx0 rfl rfl 12 (by decide) (List.mem_of_getElem? (i := 16) rfl) inlX12 rfl dX13_names_11 (fun v19959 hv19959 ov19959 => ?_)
  obtain rfl : v19959 = .int x3 := hv19959.symm.trans pf3
  refine lv_lload_n hx hb dX13_names_14 rfl (lv_at hl 1 rfl) ?_
  refine t_lst X hT mb19957 gb19957 rfl (by omega) dX13_names_15 (fun F H locs hT h1v19960 h2v19960 => ?_)
  have pf0 := (h2v19960 _ _).trans pf0
  have pf1 := (h2v19960 _ _).trans pf1
  have pf2 := (h2v19960 _ _).trans pf2
  have pf3 := (h2v19960 _ _).trans pf3
  have hv19956 := (h2v19960 _ _).trans hv19956
  have hfr : (∀ b j : Nat, (tag b ≠ 44 ∨ j ≠ 12) → fld F b j = fld Fo b j) ∧ (∀ b j : Nat, tag b ≠ 34 → tag b ≠ 35 → tag b ≠ 36 → elm F b j = elm Fo b j) := ⟨fun b j n44_12 => (h2v19960 b j).trans (hfr.1 b j n44_12), fun b j a34 a35 a36 => (h1v19960 b j).trans (hfr.2 b j a34 a35 a36)⟩
  have hrel := msr_of (fun j => h1v19960 _ j) (fun j => h1v19960 _ j) hrel
  refine lv_aload_n hx hb dX13_names_16 rfl (lv_at hl 0 rfl) ?_
  refine t_get (C := RX13) (T := TX13) (N := 37) X hT m0 g0 rfl rfl 4 (by decide) qw_477 inlX13 rfl dX13_names_17 (fun v19961 hv19961 ov19961 => ?_)
  obtain rfl : v19961 = .ref x0 := hv19961.symm.trans pf0
  refine t_getN (C := RX12) (T := TX12) (N := 31) X hT mx0 gx0 rfl rfl 28 (by decide) (List.mem_of_getElem? (i := 32) rfl) inlX12 rfl dX13_names_20 (fun v19962 hv19962 ov19962 => ?_)
  obtain rfl : v19962 = .ref x1 := hv19962.symm.trans pf1
  refine lv_aload_n hx hb dX13_names_23 rfl (lv_at hl 0 rfl) ?_
  refine t_get (C := RX13) (T := TX13) (N := 37) X hT m0 g0 rfl rfl 4 (by decide) qw_477 inlX13 rfl dX13_names_24 (fun v19963 hv19963 ov19963 => ?_)
  obtain rfl : v19963 = .ref x0 := hv19963.symm.trans pf0
  refine t_getN (C := RX12) (T := TX12) (N := 31) X hT mx0 gx0 rfl rfl 12 (by decide) (List.mem_of_getElem? (i := 16) rfl) inlX12 rfl dX13_names_27 (fun v19964 hv19964 ov19964 => ?_)
  obtain rfl : v19964 = .int x3 := hv19964.symm.trans pf3
  refine lv_iload_n hx hb dX13_names_30 rfl (lv_at hl 2 rfl) ?_
  refine t_ist X hT mx1 gx1 rfl (by omega) (show (-2147483648) ≤ (p2 : Int32).toInt ∧ (p2 : Int32).toInt ≤ 2147483647 from (rg_all _)) dX13_names_31 (fun F H locs hT v19965 h1v19965 h2v19965 => ?_)
  have pf0 := (h2v19965 _ _).trans pf0
  have pf1 := (h2v19965 _ _).trans pf1
  have pf2 := (h2v19965 _ _).trans pf2
  have pf3 := (h2v19965 _ _).trans pf3
  have hv19956 := (h2v19965 _ _).trans hv19956
  have hfr : (∀ b j : Nat, (tag b ≠ 44 ∨ j ≠ 12) → fld F b j = fld Fo b j) ∧ (∀ b j : Nat, tag b ≠ 34 → tag b ≠ 35 → tag b ≠ 36 → elm F b j = elm Fo b j) := ⟨fun b j n44_12 => (h2v19965 b j).trans (hfr.1 b j n44_12), fun b j a34 a35 a36 => (h1v19965 b j (Or.inl (at_ne gx1 a35))).trans (hfr.2 b j a34 a35 a36)⟩
  have hrel := msr_s hrel h1v19965 (tne gx2 gx1 (by decide))
  refine lv_aload_n hx hb dX13_names_32 rfl (lv_at hl 0 rfl) ?_
  refine t_get (C := RX13) (T := TX13) (N := 37) X hT m0 g0 rfl rfl 4 (by decide) qw_477 inlX13 rfl dX13_names_33 (fun v19966 hv19966 ov19966 => ?_)
  obtain rfl : v19966 = .ref x0 := hv19966.symm.trans pf0
  refine t_getN (C := RX12) (T := TX12) (N := 31) X hT mx0 gx0 rfl rfl 29 (by decide) (List.mem_of_getElem? (i := 33) rfl) inlX12 rfl dX13_names_36 (fun v19967 hv19967 ov19967 => ?_)
  obtain rfl : v19967 = .ref x2 := hv19967.symm.trans pf2
  refine lv_aload_n hx hb dX13_names_39 rfl (lv_at hl 0 rfl) ?_
  refine t_get (C := RX13) (T := TX13) (N := 37) X hT m0 g0 rfl rfl 4 (by decide) qw_477 inlX13 rfl dX13_names_40 (fun v19968 hv19968 ov19968 => ?_)
  obtain rfl : v19968 = .ref x0 := hv19968.symm.trans pf0
  refine t_getN (C := RX12) (T := TX12) (N := 31) X hT mx0 gx0 rfl rfl 12 (by decide) (List.mem_of_getElem? (i := 16) rfl) inlX12 rfl dX13_names_43 (fun v19969 hv19969 ov19969 => ?_)
  obtain rfl : v19969 = .int x3 := hv19969.symm.trans pf3
  refine lv_iload hx hb dX13_names_46 (lv_at hl 3 rfl) ?_
  refine t_ist X hT mx2 gx2 rfl (by omega) (show (-2147483648) ≤ (p3 : Int32).toInt ∧ (p3 : Int32).toInt ≤ 2147483647 from (rg_all _)) dX13_names_48 (fun F H locs hT v19970 h1v19970 h2v19970 => ?_)
  have pf0 := (h2v19970 _ _).trans pf0
  have pf1 := (h2v19970 _ _).trans pf1
  have pf2 := (h2v19970 _ _).trans pf2
  have pf3 := (h2v19970 _ _).trans pf3
  have hv19956 := (h2v19970 _ _).trans hv19956
  have v19965 := (h1v19970 _ _ (Or.inl (tne gx1 gx2 (by decide)))).trans v19965
  have hfr : (∀ b j : Nat, (tag b ≠ 44 ∨ j ≠ 12) → fld F b j = fld Fo b j) ∧ (∀ b j : Nat, tag b ≠ 34 → tag b ≠ 35 → tag b ≠ 36 → elm F b j = elm Fo b j) := ⟨fun b j n44_12 => (h2v19970 b j).trans (hfr.1 b j n44_12), fun b j a34 a35 a36 => (h1v19970 b j (Or.inl (at_ne gx2 a36))).trans (hfr.2 b j a34 a35 a36)⟩
  have hrel := msr_n hrel v19965 h1v19970 v19970 (tne gx1 gx2 (by decide)) ⟨fun h9 => (by have h8 := congrArg Int32.toInt h9; rw [show ((0 : Int32).toInt = 0) from by decide] at h8; omega), fun h9 => ⟨(by omega), (by omega)⟩, fun h9 => (by have h8 := congrArg Int32.toInt h9; rw [show ((3 : Int32).toInt = 3) from by decide] at h8; omega)⟩
  refine lv_aload_n hx hb dX13_names_49 rfl (lv_at hl 0 rfl) ?_
  refine t_get (C := RX13) (T := TX13) (N := 37) X hT m0 g0 rfl rfl 4 (by decide) qw_477 inlX13 rfl dX13_names_50 (fun v19971 hv19971 ov19971 => ?_)
  obtain rfl : v19971 = .ref x0 := hv19971.symm.trans pf0
  refine lv_dup hx hb dX13_names_53 rfl ?_
  refine t_getN (C := RX12) (T := TX12) (N := 31) X hT mx0 gx0 rfl rfl 12 (by decide) (List.mem_of_getElem? (i := 16) rfl) inlX12 rfl dX13_names_54 (fun v19972 hv19972 ov19972 => ?_)
  obtain rfl : v19972 = .int x3 := hv19972.symm.trans pf3
  refine lv_iconst (v := 1) hx hb dX13_names_57 (by decide) ?_
  refine lv_iadd hx hb dX13_names_58 ?_
  refine lv_topi (fun z19973 ez19973 => ?_)
  have hz19973 : z19973.toInt = x3.toInt + 1 := ar_add ez19973 (rfl : x3.toInt = x3.toInt) (by decide : (1 : Int32).toInt = 1) (by omega) (by omega)
  have rz19973 : 1 ≤ z19973.toInt ∧ z19973.toInt ≤ 32 := by omega
  refine t_putN (C := RX12) (T := TX12) (N := 31) (v := .int z19973) X hT mx0 gx0 rfl tyX12 tyX12_ok nmX12 rfl 12 (by decide) (List.mem_of_getElem? (i := 16) rfl) inlX12 rfl (by first | rfl | decide) (by first | rfl | decide) rfl (⟨_, rfl, (show 0 ≤ (z19973 : Int32).toInt from (by omega)), (show (z19973 : Int32).toInt ≤ 32 from (by omega))⟩) dX13_names_59 (fun F H locs hT v19974 h1v19974 h2v19974 => ?_)
  have pf0 := (h1v19974 _ _ (Or.inr (by decide))).trans pf0
  have pf1 := (h1v19974 _ _ (Or.inr (by decide))).trans pf1
  have pf2 := (h1v19974 _ _ (Or.inr (by decide))).trans pf2
  have hv19956 := (h1v19974 _ _ (Or.inr (by decide))).trans hv19956
  have v19965 := (h2v19974 _ _).trans v19965
  have v19970 := (h2v19974 _ _).trans v19970
  have hfr : (∀ b j : Nat, (tag b ≠ 44 ∨ j ≠ 12) → fld F b j = fld Fo b j) ∧ (∀ b j : Nat, tag b ≠ 34 → tag b ≠ 35 → tag b ≠ 36 → elm F b j = elm Fo b j) := ⟨fun b j n44_12 => (h1v19974 b j (fr_ne gx0 n44_12)).trans (hfr.1 b j n44_12), fun b j a34 a35 a36 => (h2v19974 b j).trans (hfr.2 b j a34 a35 a36)⟩
  have hrel := msr_of (fun j => h2v19974 _ j) (fun j => h2v19974 _ j) hrel
  exact t_vret hQ X hT ⟨hfr, hrel, ⟨_, v19974, by omega⟩⟩ (Nat.le_of_ble_eq_true rfl) (Nat.le_of_ble_eq_true rfl) dX13_names_62
