set_option maxHeartbeats 4000000 in
set_option maxRecDepth 100000 in
theorem km40_X13_needs (l : Launch) (G : KG) (tag : Nat → Nat) (L : List Nat) (Fo : Nat → va_E) (ho : okT G ttC tag L Fo) (p0 : Nat) (p1 : Nat) (x0 : Nat) (x1 : Nat) (x2 : Nat) (x3 : Int32) (x4 : Int32) (x5 : Int32) (m0 : p0 ∈ L) (g0 : tag p0 = 46) (h1 : p1 < 77) (mx0 : x0 ∈ L) (gx0 : tag x0 = 44) (pf0 : fld Fo p0 4 = .ref x0) (mx1 : x1 ∈ L) (gx1 : tag x1 = 35) (pf1 : fld Fo x0 28 = .ref x1) (mx2 : x2 ∈ L) (gx2 : tag x2 = 36) (pf2 : fld Fo x0 29 = .ref x2) (hx3 : 0 ≤ x3.toInt ∧ x3.toInt ≤ 5) (pf3 : fld Fo p0 9 = .int x3) (hx4 : 0 ≤ x4.toInt ∧ x4.toInt ≤ 1000) (pf4 : fld Fo p0 8 = .int x4) (hx5 : 0 ≤ x5.toInt ∧ x5.toInt ≤ 7) (pf5 : fld Fo p0 13 = .int x5) (hkf : KF x3 x5) : TMv l yX13_needs cX13_needs 2 { frames := 6, cells := 0, slots := 0, locals := 129 } G ttC tag L Fo [.ref p0, .ref (G.2 (100 + p1))] (fun F1 => ((∀ b j : Nat, (tag b ≠ 46 ∨ j ≠ 8) → (tag b ≠ 46 ∨ j ≠ 9) → (tag b ≠ 46 ∨ j ≠ 10) → (tag b ≠ 46 ∨ j ≠ 11) → (tag b ≠ 46 ∨ j ≠ 12) → (tag b ≠ 46 ∨ j ≠ 13) → (tag b ≠ 46 ∨ j ≠ 14) → (tag b ≠ 46 ∨ j ≠ 15) → fld F1 b j = fld Fo b j) ∧ (∀ b j : Nat, elm F1 b j = elm Fo b j)) ∧ (∃ so sp fa : Int32, fld F1 p0 9 = .int so ∧ fld F1 p0 8 = .int sp ∧ fld F1 p0 13 = .int fa ∧ (0 ≤ so.toInt ∧ so.toInt ≤ 5) ∧ (0 ≤ sp.toInt ∧ sp.toInt ≤ 1000) ∧ (0 ≤ fa.toInt ∧ fa.toInt ≤ 7) ∧ STK x3 so ∧ SPT x3 x4 so sp ∧ KF so fa)) := by
  refine t_bodyv (y := yX13_needs) (cd := cX13_needs) (mL := 2) (rm := { frames := 6, cells := 0, slots := 0, locals := 129 }) (av := [.ref p0, .ref (G.2 (100 + p1))]) (by decide) (Nat.le_of_ble_eq_true rfl) ho ?_
  intro p e s m args below meth c ls A Q hQ X hT hl
  have hx := X.1.1
  have hb := X.1.2.1
  have hl : lv_has ls 2 [(0, .ref p0), (1, .ref (G.2 (100 + p1)))] := hl
  obtain ⟨F, hFo⟩ : ∃ F : Nat → va_E, F = Fo := ⟨_, rfl⟩
  rw [← hFo] at hT pf0 pf1 pf2 pf3 pf4 pf5
  have hfr : (∀ b j : Nat, (tag b ≠ 46 ∨ j ≠ 8) → (tag b ≠ 46 ∨ j ≠ 9) → (tag b ≠ 46 ∨ j ≠ 10) → (tag b ≠ 46 ∨ j ≠ 11) → (tag b ≠ 46 ∨ j ≠ 12) → (tag b ≠ 46 ∨ j ≠ 13) → (tag b ≠ 46 ∨ j ≠ 14) → (tag b ≠ 46 ∨ j ≠ 15) → fld F b j = fld Fo b j) ∧ (∀ b j : Nat, elm F b j = elm Fo b j) := by
    rw [hFo]
    exact ⟨by intros; rfl, by intros; rfl⟩
  have hstk : STK x3 x3 := STK.rf
  have hspt : SPT x3 x4 x3 x4 := SPT.rf
  have K13 : ∀ (z14888 : Int32) (z14889 : Int32) (z14890 : Int32) (F : Nat → va_E) (H : Heap) (locs : List Loc) (ls : Array Slot), (0 ≤ z14888.toInt ∧ z14888.toInt ≤ 5) → (0 ≤ z14889.toInt ∧ z14889.toInt ≤ 1000) → (0 ≤ z14890.toInt ∧ z14890.toInt ≤ 7) → TH G ttC A s tag L F H locs → ((∀ b j : Nat, (tag b ≠ 46 ∨ j ≠ 8) → (tag b ≠ 46 ∨ j ≠ 9) → (tag b ≠ 46 ∨ j ≠ 10) → (tag b ≠ 46 ∨ j ≠ 11) → (tag b ≠ 46 ∨ j ≠ 12) → (tag b ≠ 46 ∨ j ≠ 13) → (tag b ≠ 46 ∨ j ≠ 14) → (tag b ≠ 46 ∨ j ≠ 15) → fld F b j = fld Fo b j) ∧ (∀ b j : Nat, elm F b j = elm Fo b j)) → (fld F p0 4 = .ref x0) → (fld F x0 28 = .ref x1) → (fld F x0 29 = .ref x2) → (fld F p0 9 = .int z14888) → (fld F p0 8 = .int z14889) → (fld F p0 13 = .int z14890) → (STK x3 z14888) → (SPT x3 x4 z14888 z14889) → (KF z14888 z14890) → lv_has ls 2 [(0, .ref p0), (1, .ref (G.2 (100 + p1)))] → W p l e { frames := 6, cells := 0, slots := 0, locals := 129 } s m args below meth c H locs 0 0 Q (F0 m 13 ls []) := by
    intro z14888 z14889 z14890 F H locs ls rz14888 rz14889 rz14890 hT hfr pf0 pf1 pf2 qz14888 qz14889 qz14890 hstk hspt hkf hl
    refine lv_aload_n hx hb dX13_needs_13 rfl (lv_at hl 0 rfl) ?_
    refine t_cVv (n := 0) (C := RX13) (T := TX13) (N := 37) (As := []) (rest := []) X hT (km14_X13_goesOn l G tag L F hT.2.2.2 p0 x0 x1 x2 z14888 z14889 z14890 m0 g0 mx0 gx0 pf0 mx1 gx1 pf1 mx2 gx2 pf2 (by omega) qz14888 (by omega) qz14889 (by omega) qz14890 hkf) m0 g0 rfl rfl qw_508 qw_509 qw_510 qw_5 qw_511 ⟨rfl, by decide +kernel, by decide +kernel, by decide +kernel⟩ ⟨Nat.le_of_ble_eq_true rfl, Nat.le_of_ble_eq_true rfl⟩ hl rfl rfl (Nat.le_of_ble_eq_true rfl) dX13_needs_14 ⟨Nat.le_of_ble_eq_true rfl, Nat.le_of_ble_eq_true rfl⟩ (fun F H locs hT hz14891 => ?_)
    obtain ⟨yz14891, ⟨soz14891, spz14891, faz14891, qsoz14891, qspz14891, qfaz14891, rsoz14891, rspz14891, rfaz14891, stz14891, ptz14891, hkf⟩⟩ := hz14891
    have qz14890 := (yz14891.1 _ 13 (Or.inr (by decide)) (Or.inr (by decide)) (Or.inr (by decide)) (Or.inr (by decide)) (Or.inr (by decide)) (Or.inr (by decide))).trans qz14890
    have pf0 := (yz14891.1 _ 4 (Or.inr (by decide)) (Or.inr (by decide)) (Or.inr (by decide)) (Or.inr (by decide)) (Or.inr (by decide)) (Or.inr (by decide))).trans pf0
    have pf1 := (yz14891.1 _ 28 (Or.inr (by decide)) (Or.inr (by decide)) (Or.inr (by decide)) (Or.inr (by decide)) (Or.inr (by decide)) (Or.inr (by decide))).trans pf1
    have pf2 := (yz14891.1 _ 29 (Or.inr (by decide)) (Or.inr (by decide)) (Or.inr (by decide)) (Or.inr (by decide)) (Or.inr (by decide)) (Or.inr (by decide))).trans pf2
    have hfr : (∀ b j : Nat, (tag b ≠ 46 ∨ j ≠ 8) → (tag b ≠ 46 ∨ j ≠ 9) → (tag b ≠ 46 ∨ j ≠ 10) → (tag b ≠ 46 ∨ j ≠ 11) → (tag b ≠ 46 ∨ j ≠ 12) → (tag b ≠ 46 ∨ j ≠ 13) → (tag b ≠ 46 ∨ j ≠ 14) → (tag b ≠ 46 ∨ j ≠ 15) → fld F b j = fld Fo b j) ∧ (∀ b j : Nat, elm F b j = elm Fo b j) := ⟨fun b j n46_8 n46_9 n46_10 n46_11 n46_12 n46_13 n46_14 n46_15 => (yz14891.1 b j n46_8 n46_9 n46_10 n46_11 n46_12 n46_15).trans (hfr.1 b j n46_8 n46_9 n46_10 n46_11 n46_12 n46_13 n46_14 n46_15), fun b j  => (yz14891.2 b j ).trans (hfr.2 b j )⟩
    have hstk := STK.tr hstk stz14891
    have hspt := SPT.tr hspt ptz14891
    exact t_vret hQ X hT ⟨hfr, ⟨soz14891, spz14891, faz14891, qsoz14891, qspz14891, qfaz14891, (by omega), (by omega), (by omega), hstk, hspt, hkf⟩⟩ (Nat.le_of_ble_eq_true rfl) (Nat.le_of_ble_eq_true rfl) dX13_needs_17
  refine lv_aload_n hx hb dX13_needs_0 rfl (lv_at hl 0 rfl) ?_
  refine lv_aload_n hx hb dX13_needs_1 rfl (lv_at hl 1 rfl) ?_
  refine t_cVi (n := 1) (C := RX13) (T := TX13) (N := 37) (As := [.ref (G.2 (100 + p1))]) (rest := []) X hT (km9_X13_isWord l G tag L F hT.2.2.2 p0 p1 x3 m0 g0 h1 (by omega) pf3) m0 g0 rfl rfl qw_535 qw_536 qw_537 qw_5 qw_538 ⟨rfl, by decide +kernel, by decide +kernel, by decide +kernel⟩ ⟨Nat.le_of_ble_eq_true rfl, Nat.le_of_ble_eq_true rfl⟩ hl rfl rfl (Nat.le_of_ble_eq_true rfl) dX13_needs_2 ⟨Nat.le_of_ble_eq_true rfl, Nat.le_of_ble_eq_true rfl⟩ (fun z14892 F9 H locs hT hz14892 => ?_)
  obtain ⟨fz14892, hz14892, xz14892_0⟩ := hz14892
  rw [fz14892] at hT
  refine lv_if_ne (tgt := 13) hx hb dX13_needs_5 (by decide) (fun c14893 => ?_) (fun c14893 => ?_)
  · have w14894 := cv_ne (rfl : z14892.toInt = z14892.toInt) (by decide : (0 : Int32).toInt = 0) c14893
    exact K13 x3 x4 x5 _ _ _ _ (by omega) (by omega) (by omega) hT hfr pf0 pf1 pf2 pf3 pf4 pf5 hstk hspt hkf (lv_sub hl [0, 1] rfl)
  · have w14895 := cv_eq (rfl : z14892.toInt = z14892.toInt) (by decide : (0 : Int32).toInt = 0) c14893
    refine lv_aload_n hx hb dX13_needs_8 rfl (lv_at hl 0 rfl) ?_
    refine lv_iconst (v := 1) hx hb dX13_needs_9 (by decide) ?_
    refine t_cVv (n := 1) (C := RX13) (T := TX13) (N := 37) (As := [.int 1]) (rest := []) X hT (km10_X13_flaw l G tag L F hT.2.2.2 p0 1 x0 x1 x2 x3 x4 x5 m0 g0 (by decide) mx0 gx0 pf0 mx1 gx1 pf1 mx2 gx2 pf2 (by omega) pf3 (by omega) pf4 (by omega) pf5 hkf) m0 g0 rfl rfl qw_548 qw_549 qw_550 qw_5 qw_551 ⟨rfl, by decide +kernel, by decide +kernel, by decide +kernel⟩ ⟨Nat.le_of_ble_eq_true rfl, Nat.le_of_ble_eq_true rfl⟩ hl rfl rfl (Nat.le_of_ble_eq_true rfl) dX13_needs_10 ⟨Nat.le_of_ble_eq_true rfl, Nat.le_of_ble_eq_true rfl⟩ (fun F H locs hT hz14896 => ?_)
    obtain ⟨yz14896, ⟨soz14896, spz14896, faz14896, qsoz14896, qspz14896, qfaz14896, rsoz14896, rspz14896, rfaz14896, stz14896, ptz14896, hkf, pxz14896_0⟩⟩ := hz14896
    have pf0 := (yz14896.1 _ 4 (Or.inr (by decide)) (Or.inr (by decide)) (Or.inr (by decide))).trans pf0
    have pf1 := (yz14896.1 _ 28 (Or.inr (by decide)) (Or.inr (by decide)) (Or.inr (by decide))).trans pf1
    have pf2 := (yz14896.1 _ 29 (Or.inr (by decide)) (Or.inr (by decide)) (Or.inr (by decide))).trans pf2
    have pf4 := (yz14896.1 _ 8 (Or.inr (by decide)) (Or.inr (by decide)) (Or.inr (by decide))).trans pf4
    have hfr : (∀ b j : Nat, (tag b ≠ 46 ∨ j ≠ 8) → (tag b ≠ 46 ∨ j ≠ 9) → (tag b ≠ 46 ∨ j ≠ 10) → (tag b ≠ 46 ∨ j ≠ 11) → (tag b ≠ 46 ∨ j ≠ 12) → (tag b ≠ 46 ∨ j ≠ 13) → (tag b ≠ 46 ∨ j ≠ 14) → (tag b ≠ 46 ∨ j ≠ 15) → fld F b j = fld Fo b j) ∧ (∀ b j : Nat, elm F b j = elm Fo b j) := ⟨fun b j n46_8 n46_9 n46_10 n46_11 n46_12 n46_13 n46_14 n46_15 => (yz14896.1 b j n46_9 n46_13 n46_14).trans (hfr.1 b j n46_8 n46_9 n46_10 n46_11 n46_12 n46_13 n46_14 n46_15), fun b j  => (yz14896.2 b j ).trans (hfr.2 b j )⟩
    have hstk := STK.tr hstk stz14896
    have hspt := SPT.tr hspt ptz14896
    exact K13 soz14896 spz14896 faz14896 _ _ _ _ (by omega) (by omega) (by omega) hT hfr pf0 pf1 pf2 qsoz14896 qspz14896 qfaz14896 hstk hspt hkf (lv_sub hl [0, 1] rfl)
set_option maxHeartbeats 4000000 in
set_option maxRecDepth 100000 in
theorem km41_X13_bounded (l : Launch) (G : KG) (tag : Nat → Nat) (L : List Nat) (Fo : Nat → va_E) (ho : okT G ttC tag L Fo) (p0 : Nat) (p1 : Int32) (p2 : Int32) (x0 : Nat) (x1 : Nat) (x2 : Nat) (x3 : Int32) (x4 : Int32) (x5 : Int32) (m0 : p0 ∈ L) (g0 : tag p0 = 46) (h1 : 0 ≤ p1.toInt ∧ p1.toInt ≤ 0) (h2 : 99 ≤ p2.toInt ∧ p2.toInt ≤ 99) (mx0 : x0 ∈ L) (gx0 : tag x0 = 44) (pf0 : fld Fo p0 4 = .ref x0) (mx1 : x1 ∈ L) (gx1 : tag x1 = 35) (pf1 : fld Fo x0 28 = .ref x1) (mx2 : x2 ∈ L) (gx2 : tag x2 = 36) (pf2 : fld Fo x0 29 = .ref x2) (hx3 : 0 ≤ x3.toInt ∧ x3.toInt ≤ 5) (pf3 : fld Fo p0 9 = .int x3) (hx4 : 0 ≤ x4.toInt ∧ x4.toInt ≤ 1000) (pf4 : fld Fo p0 8 = .int x4) (hx5 : 0 ≤ x5.toInt ∧ x5.toInt ≤ 7) (pf5 : fld Fo p0 13 = .int x5) (hkf : KF x3 x5) : TMi l yX13_bounded cX13_bounded 3 (some .int) { frames := 1, cells := 0, slots := 0, locals := 22 } G ttC tag L Fo [.ref p0, .int p1, .int p2] (fun r F1 => (0 ≤ r.toInt ∧ r.toInt ≤ 99) ∧ ((∀ b j : Nat, (tag b ≠ 46 ∨ j ≠ 9) → (tag b ≠ 46 ∨ j ≠ 13) → (tag b ≠ 46 ∨ j ≠ 14) → fld F1 b j = fld Fo b j) ∧ (∀ b j : Nat, elm F1 b j = elm Fo b j)) ∧ (∃ so sp fa : Int32, fld F1 p0 9 = .int so ∧ fld F1 p0 8 = .int sp ∧ fld F1 p0 13 = .int fa ∧ (0 ≤ so.toInt ∧ so.toInt ≤ 5) ∧ (0 ≤ sp.toInt ∧ sp.toInt ≤ 1000) ∧ (0 ≤ fa.toInt ∧ fa.toInt ≤ 7) ∧ STK x3 so ∧ SPT x3 x4 so sp ∧ KF so fa)) := by
  refine t_bodyi (y := yX13_bounded) (cd := cX13_bounded) (mL := 3) (rt := (some .int)) (rm := { frames := 1, cells := 0, slots := 0, locals := 22 }) (av := [.ref p0, .int p1, .int p2]) (by decide) (Nat.le_of_ble_eq_true rfl) ho ?_
  intro p e s m args below meth c ls A Q hQ X hT hl
  have hx := X.1.1
  have hb := X.1.2.1
  have hl : lv_has ls 3 [(0, .ref p0), (1, .int p1), (2, .int p2)] := hl
  obtain ⟨F, hFo⟩ : ∃ F : Nat → va_E, F = Fo := ⟨_, rfl⟩
  rw [← hFo] at hT pf0 pf1 pf2 pf3 pf4 pf5
  have hfr : (∀ b j : Nat, (tag b ≠ 46 ∨ j ≠ 9) → (tag b ≠ 46 ∨ j ≠ 13) → (tag b ≠ 46 ∨ j ≠ 14) → fld F b j = fld Fo b j) ∧ (∀ b j : Nat, elm F b j = elm Fo b j) := by
    rw [hFo]
    exact ⟨by intros; rfl, by intros; rfl⟩
  have hstk : STK x3 x3 := STK.rf
  have hspt : SPT x3 x4 x3 x4 := SPT.rf
  refine lv_aload_n hx hb dX13_bounded_0 rfl (lv_at hl 0 rfl) ?_
  refine t_get (C := RX13) (T := TX13) (N := 37) X hT m0 g0 rfl rfl 9 (by decide) qw_478 inlX13 rfl dX13_bounded_1 (fun v15184 hv15184 ov15184 => ?_)
  obtain rfl : v15184 = .int x3 := hv15184.symm.trans pf3
  refine lv_iconst (v := 3) hx hb dX13_bounded_4 (by decide) ?_
  refine lv_icmp_eq (tgt := 16) hx hb dX13_bounded_5 (by decide) (fun c15185 => ?_) (fun c15185 => ?_)
  · have w15186 := cv_eq (rfl : x3.toInt = x3.toInt) (by decide : (3 : Int32).toInt = 3) c15185
    refine lv_aload_n hx hb dX13_bounded_16 rfl (lv_at hl 0 rfl) ?_
    refine t_get (C := RX13) (T := TX13) (N := 37) X hT m0 g0 rfl rfl 12 (by decide) qw_516 inlX13 rfl dX13_bounded_17 (fun v15187 hv15187 ov15187 => ?_)
    obtain ⟨z15188, rfl, rz15188⟩ := okV_i ov15187
    refine lv_iload_n hx hb dX13_bounded_20 rfl (lv_at hl 1 rfl) ?_
    refine lv_iload_n hx hb dX13_bounded_21 rfl (lv_at hl 2 rfl) ?_
    refine t_cSi (n := 3) (As := [.int z15188, .int p1, .int p2]) (rest := []) X hT (km19_X13_within l G tag L F hT.2.2.2 z15188 p1 p2 ) qw_568 qw_569 qw_5 qw_570 ⟨by decide +kernel, by decide +kernel, by decide +kernel⟩ ⟨Nat.le_of_ble_eq_true rfl, Nat.le_of_ble_eq_true rfl⟩ hl rfl rfl (Nat.le_of_ble_eq_true rfl) dX13_bounded_22 ⟨Nat.le_of_ble_eq_true rfl, Nat.le_of_ble_eq_true rfl⟩ (fun z15189 F9 H locs hT hz15189 => ?_)
    obtain ⟨fz15189, hz15189, xz15189_0⟩ := hz15189
    rw [fz15189] at hT
    refine lv_if_ne (tgt := 33) hx hb dX13_bounded_25 (by decide) (fun c15190 => ?_) (fun c15190 => ?_)
    · have w15191 := cv_ne (rfl : z15189.toInt = z15189.toInt) (by decide : (0 : Int32).toInt = 0) c15190
      have w15192 := xz15189_0 (by omega)
      refine lv_aload_n hx hb dX13_bounded_33 rfl (lv_at hl 0 rfl) ?_
      refine t_get (C := RX13) (T := TX13) (N := 37) X hT m0 g0 rfl rfl 9 (by decide) qw_478 inlX13 rfl dX13_bounded_34 (fun v15193 hv15193 ov15193 => ?_)
      obtain rfl : v15193 = .int x3 := hv15193.symm.trans pf3
      refine lv_iconst (v := 5) hx hb dX13_bounded_37 (by decide) ?_
      refine lv_icmp_ne (tgt := 45) hx hb dX13_bounded_38 (by decide) (fun c15194 => ?_) (fun c15194 => ?_)
      · have w15195 := cv_ne (rfl : x3.toInt = x3.toInt) (by decide : (5 : Int32).toInt = 5) c15194
        refine lv_aload_n hx hb dX13_bounded_45 rfl (lv_at hl 0 rfl) ?_
        refine t_get (C := RX13) (T := TX13) (N := 37) X hT m0 g0 rfl rfl 12 (by decide) qw_516 inlX13 rfl dX13_bounded_46 (fun v15196 hv15196 ov15196 => ?_)
        obtain rfl : v15196 = .int z15188 := hv15196.symm.trans hv15187
        exact t_iret hQ X hT (⟨(by omega), hfr, ⟨x3, x4, x5, pf3, pf4, pf5, (by omega), (by omega), (by omega), hstk, hspt, hkf⟩⟩) (Nat.le_of_ble_eq_true rfl) (Nat.le_of_ble_eq_true rfl) dX13_bounded_49
      · have w15197 := cv_eq (rfl : x3.toInt = x3.toInt) (by decide : (5 : Int32).toInt = 5) c15194
        exfalso
        omega
    · have w15198 := cv_eq (rfl : z15189.toInt = z15189.toInt) (by decide : (0 : Int32).toInt = 0) c15190
      refine lv_aload_n hx hb dX13_bounded_28 rfl (lv_at hl 0 rfl) ?_
      refine lv_iconst (v := 4) hx hb dX13_bounded_29 (by decide) ?_
      refine t_cVv (n := 1) (C := RX13) (T := TX13) (N := 37) (As := [.int 4]) (rest := []) X hT (km10_X13_flaw l G tag L F hT.2.2.2 p0 4 x0 x1 x2 x3 x4 x5 m0 g0 (by decide) mx0 gx0 pf0 mx1 gx1 pf1 mx2 gx2 pf2 (by omega) pf3 (by omega) pf4 (by omega) pf5 hkf) m0 g0 rfl rfl qw_548 qw_549 qw_550 qw_5 qw_551 ⟨rfl, by decide +kernel, by decide +kernel, by decide +kernel⟩ ⟨Nat.le_of_ble_eq_true rfl, Nat.le_of_ble_eq_true rfl⟩ hl rfl rfl (Nat.le_of_ble_eq_true rfl) dX13_bounded_30 ⟨Nat.le_of_ble_eq_true rfl, Nat.le_of_ble_eq_true rfl⟩ (fun F H locs hT hz15199 => ?_)
      obtain ⟨yz15199, ⟨soz15199, spz15199, faz15199, qsoz15199, qspz15199, qfaz15199, rsoz15199, rspz15199, rfaz15199, stz15199, ptz15199, hkf, pxz15199_0⟩⟩ := hz15199
      have pf0 := (yz15199.1 _ 4 (Or.inr (by decide)) (Or.inr (by decide)) (Or.inr (by decide))).trans pf0
      have pf1 := (yz15199.1 _ 28 (Or.inr (by decide)) (Or.inr (by decide)) (Or.inr (by decide))).trans pf1
      have pf2 := (yz15199.1 _ 29 (Or.inr (by decide)) (Or.inr (by decide)) (Or.inr (by decide))).trans pf2
      have pf4 := (yz15199.1 _ 8 (Or.inr (by decide)) (Or.inr (by decide)) (Or.inr (by decide))).trans pf4
      have hv15187 := (yz15199.1 _ 12 (Or.inr (by decide)) (Or.inr (by decide)) (Or.inr (by decide))).trans hv15187
      have hfr : (∀ b j : Nat, (tag b ≠ 46 ∨ j ≠ 9) → (tag b ≠ 46 ∨ j ≠ 13) → (tag b ≠ 46 ∨ j ≠ 14) → fld F b j = fld Fo b j) ∧ (∀ b j : Nat, elm F b j = elm Fo b j) := ⟨fun b j n46_9 n46_13 n46_14 => (yz15199.1 b j n46_9 n46_13 n46_14).trans (hfr.1 b j n46_9 n46_13 n46_14), fun b j  => (yz15199.2 b j ).trans (hfr.2 b j )⟩
      have hstk := STK.tr hstk stz15199
      have hspt := SPT.tr hspt ptz15199
      refine lv_aload_n hx hb dX13_bounded_33 rfl (lv_at hl 0 rfl) ?_
      refine t_get (C := RX13) (T := TX13) (N := 37) X hT m0 g0 rfl rfl 9 (by decide) qw_478 inlX13 rfl dX13_bounded_34 (fun v15200 hv15200 ov15200 => ?_)
      obtain rfl : v15200 = .int soz15199 := hv15200.symm.trans qsoz15199
      refine lv_iconst (v := 5) hx hb dX13_bounded_37 (by decide) ?_
      refine lv_icmp_ne (tgt := 45) hx hb dX13_bounded_38 (by decide) (fun c15201 => ?_) (fun c15201 => ?_)
      · have w15202 := cv_ne (rfl : soz15199.toInt = soz15199.toInt) (by decide : (5 : Int32).toInt = 5) c15201
        exfalso
        omega
      · have w15203 := cv_eq (rfl : soz15199.toInt = soz15199.toInt) (by decide : (5 : Int32).toInt = 5) c15201
        refine lv_iload_n hx hb dX13_bounded_41 rfl (lv_at hl 1 rfl) ?_
        refine lv_goto (tgt := 49) hx hb dX13_bounded_42 (by decide) ?_
        exact t_iret hQ X hT (⟨(by omega), hfr, ⟨soz15199, spz15199, faz15199, qsoz15199, qspz15199, qfaz15199, (by omega), (by omega), (by omega), hstk, hspt, hkf⟩⟩) (Nat.le_of_ble_eq_true rfl) (Nat.le_of_ble_eq_true rfl) dX13_bounded_49
  · have w15204 := cv_ne (rfl : x3.toInt = x3.toInt) (by decide : (3 : Int32).toInt = 3) c15185
    refine lv_aload_n hx hb dX13_bounded_8 rfl (lv_at hl 0 rfl) ?_
    refine lv_iconst (v := 1) hx hb dX13_bounded_9 (by decide) ?_
    refine t_cVv (n := 1) (C := RX13) (T := TX13) (N := 37) (As := [.int 1]) (rest := []) X hT (km10_X13_flaw l G tag L F hT.2.2.2 p0 1 x0 x1 x2 x3 x4 x5 m0 g0 (by decide) mx0 gx0 pf0 mx1 gx1 pf1 mx2 gx2 pf2 (by omega) pf3 (by omega) pf4 (by omega) pf5 hkf) m0 g0 rfl rfl qw_548 qw_549 qw_550 qw_5 qw_551 ⟨rfl, by decide +kernel, by decide +kernel, by decide +kernel⟩ ⟨Nat.le_of_ble_eq_true rfl, Nat.le_of_ble_eq_true rfl⟩ hl rfl rfl (Nat.le_of_ble_eq_true rfl) dX13_bounded_10 ⟨Nat.le_of_ble_eq_true rfl, Nat.le_of_ble_eq_true rfl⟩ (fun F H locs hT hz15205 => ?_)
    obtain ⟨yz15205, ⟨soz15205, spz15205, faz15205, qsoz15205, qspz15205, qfaz15205, rsoz15205, rspz15205, rfaz15205, stz15205, ptz15205, hkf, pxz15205_0⟩⟩ := hz15205
    have pf0 := (yz15205.1 _ 4 (Or.inr (by decide)) (Or.inr (by decide)) (Or.inr (by decide))).trans pf0
    have pf1 := (yz15205.1 _ 28 (Or.inr (by decide)) (Or.inr (by decide)) (Or.inr (by decide))).trans pf1
    have pf2 := (yz15205.1 _ 29 (Or.inr (by decide)) (Or.inr (by decide)) (Or.inr (by decide))).trans pf2
    have pf4 := (yz15205.1 _ 8 (Or.inr (by decide)) (Or.inr (by decide)) (Or.inr (by decide))).trans pf4
    have hfr : (∀ b j : Nat, (tag b ≠ 46 ∨ j ≠ 9) → (tag b ≠ 46 ∨ j ≠ 13) → (tag b ≠ 46 ∨ j ≠ 14) → fld F b j = fld Fo b j) ∧ (∀ b j : Nat, elm F b j = elm Fo b j) := ⟨fun b j n46_9 n46_13 n46_14 => (yz15205.1 b j n46_9 n46_13 n46_14).trans (hfr.1 b j n46_9 n46_13 n46_14), fun b j  => (yz15205.2 b j ).trans (hfr.2 b j )⟩
    have hstk := STK.tr hstk stz15205
    have hspt := SPT.tr hspt ptz15205
    refine lv_goto (tgt := 33) hx hb dX13_bounded_13 (by decide) ?_
    refine lv_aload_n hx hb dX13_bounded_33 rfl (lv_at hl 0 rfl) ?_
    refine t_get (C := RX13) (T := TX13) (N := 37) X hT m0 g0 rfl rfl 9 (by decide) qw_478 inlX13 rfl dX13_bounded_34 (fun v15206 hv15206 ov15206 => ?_)
    obtain rfl : v15206 = .int soz15205 := hv15206.symm.trans qsoz15205
    refine lv_iconst (v := 5) hx hb dX13_bounded_37 (by decide) ?_
    refine lv_icmp_ne (tgt := 45) hx hb dX13_bounded_38 (by decide) (fun c15207 => ?_) (fun c15207 => ?_)
    · have w15208 := cv_ne (rfl : soz15205.toInt = soz15205.toInt) (by decide : (5 : Int32).toInt = 5) c15207
      exfalso
      omega
    · have w15209 := cv_eq (rfl : soz15205.toInt = soz15205.toInt) (by decide : (5 : Int32).toInt = 5) c15207
      refine lv_iload_n hx hb dX13_bounded_41 rfl (lv_at hl 1 rfl) ?_
      refine lv_goto (tgt := 49) hx hb dX13_bounded_42 (by decide) ?_
      exact t_iret hQ X hT (⟨(by omega), hfr, ⟨soz15205, spz15205, faz15205, qsoz15205, qspz15205, qfaz15205, (by omega), (by omega), (by omega), hstk, hspt, hkf⟩⟩) (Nat.le_of_ble_eq_true rfl) (Nat.le_of_ble_eq_true rfl) dX13_bounded_49
set_option maxHeartbeats 4000000 in
set_option maxRecDepth 100000 in
theorem km42_X13_readWhole (l : Launch) (G : KG) (tag : Nat → Nat) (L : List Nat) (Fo : Nat → va_E) (ho : okT G ttC tag L Fo) (p0 : Nat) (p1 : Int32) (p2 : Int32) (x0 : Nat) (x1 : Nat) (x2 : Nat) (x3 : Int32) (x4 : Int32) (x5 : Int32) (m0 : p0 ∈ L) (g0 : tag p0 = 46) (h1 : 0 ≤ p1.toInt ∧ p1.toInt ≤ 0) (h2 : 99 ≤ p2.toInt ∧ p2.toInt ≤ 99) (mx0 : x0 ∈ L) (gx0 : tag x0 = 44) (pf0 : fld Fo p0 4 = .ref x0) (mx1 : x1 ∈ L) (gx1 : tag x1 = 35) (pf1 : fld Fo x0 28 = .ref x1) (mx2 : x2 ∈ L) (gx2 : tag x2 = 36) (pf2 : fld Fo x0 29 = .ref x2) (hx3 : 0 ≤ x3.toInt ∧ x3.toInt ≤ 5) (pf3 : fld Fo p0 9 = .int x3) (hx4 : 0 ≤ x4.toInt ∧ x4.toInt ≤ 1000) (pf4 : fld Fo p0 8 = .int x4) (hx5 : 0 ≤ x5.toInt ∧ x5.toInt ≤ 7) (pf5 : fld Fo p0 13 = .int x5) (hkf : KF x3 x5) : TMi l yX13_readWhole cX13_readWhole 4 (some .int) { frames := 2, cells := 0, slots := 0, locals := 44 } G ttC tag L Fo [.ref p0, .int p1, .int p2] (fun r F1 => (0 ≤ r.toInt ∧ r.toInt ≤ 99) ∧ ((∀ b j : Nat, (tag b ≠ 46 ∨ j ≠ 8) → (tag b ≠ 46 ∨ j ≠ 9) → (tag b ≠ 46 ∨ j ≠ 10) → (tag b ≠ 46 ∨ j ≠ 11) → (tag b ≠ 46 ∨ j ≠ 12) → (tag b ≠ 46 ∨ j ≠ 13) → (tag b ≠ 46 ∨ j ≠ 14) → (tag b ≠ 46 ∨ j ≠ 15) → fld F1 b j = fld Fo b j) ∧ (∀ b j : Nat, elm F1 b j = elm Fo b j)) ∧ (∃ so sp fa : Int32, fld F1 p0 9 = .int so ∧ fld F1 p0 8 = .int sp ∧ fld F1 p0 13 = .int fa ∧ (0 ≤ so.toInt ∧ so.toInt ≤ 5) ∧ (0 ≤ sp.toInt ∧ sp.toInt ≤ 1000) ∧ (0 ≤ fa.toInt ∧ fa.toInt ≤ 7) ∧ STK x3 so ∧ SPT x3 x4 so sp ∧ KF so fa)) := by
  refine t_bodyi (y := yX13_readWhole) (cd := cX13_readWhole) (mL := 4) (rt := (some .int)) (rm := { frames := 2, cells := 0, slots := 0, locals := 44 }) (av := [.ref p0, .int p1, .int p2]) (by decide) (Nat.le_of_ble_eq_true rfl) ho ?_
  intro p e s m args below meth c ls A Q hQ X hT hl
  have hx := X.1.1
  have hb := X.1.2.1
  have hl : lv_has ls 4 [(0, .ref p0), (1, .int p1), (2, .int p2)] := hl
  obtain ⟨F, hFo⟩ : ∃ F : Nat → va_E, F = Fo := ⟨_, rfl⟩
  rw [← hFo] at hT pf0 pf1 pf2 pf3 pf4 pf5
  have hfr : (∀ b j : Nat, (tag b ≠ 46 ∨ j ≠ 8) → (tag b ≠ 46 ∨ j ≠ 9) → (tag b ≠ 46 ∨ j ≠ 10) → (tag b ≠ 46 ∨ j ≠ 11) → (tag b ≠ 46 ∨ j ≠ 12) → (tag b ≠ 46 ∨ j ≠ 13) → (tag b ≠ 46 ∨ j ≠ 14) → (tag b ≠ 46 ∨ j ≠ 15) → fld F b j = fld Fo b j) ∧ (∀ b j : Nat, elm F b j = elm Fo b j) := by
    rw [hFo]
    exact ⟨by intros; rfl, by intros; rfl⟩
  have hstk : STK x3 x3 := STK.rf
  have hspt : SPT x3 x4 x3 x4 := SPT.rf
  refine lv_aload_n hx hb dX13_readWhole_0 rfl (lv_at hl 0 rfl) ?_
  refine lv_iload_n hx hb dX13_readWhole_1 rfl (lv_at hl 1 rfl) ?_
  refine lv_iload_n hx hb dX13_readWhole_2 rfl (lv_at hl 2 rfl) ?_
  refine t_cVi (n := 2) (C := RX13) (T := TX13) (N := 37) (As := [.int p1, .int p2]) (rest := []) X hT (km41_X13_bounded l G tag L F hT.2.2.2 p0 p1 p2 x0 x1 x2 x3 x4 x5 m0 g0 (by omega) (by omega) mx0 gx0 pf0 mx1 gx1 pf1 mx2 gx2 pf2 (by omega) pf3 (by omega) pf4 (by omega) pf5 hkf) m0 g0 rfl rfl qw_564 qw_565 qw_566 qw_5 qw_567 ⟨rfl, by decide +kernel, by decide +kernel, by decide +kernel⟩ ⟨Nat.le_of_ble_eq_true rfl, Nat.le_of_ble_eq_true rfl⟩ hl rfl rfl (Nat.le_of_ble_eq_true rfl) dX13_readWhole_3 ⟨Nat.le_of_ble_eq_true rfl, Nat.le_of_ble_eq_true rfl⟩ (fun z15232 F H locs hT hz15232 => ?_)
  obtain ⟨hz15232, yz15232, ⟨soz15232, spz15232, faz15232, qsoz15232, qspz15232, qfaz15232, rsoz15232, rspz15232, rfaz15232, stz15232, ptz15232, hkf⟩⟩ := hz15232
  have pf0 := (yz15232.1 _ 4 (Or.inr (by decide)) (Or.inr (by decide)) (Or.inr (by decide))).trans pf0
  have pf1 := (yz15232.1 _ 28 (Or.inr (by decide)) (Or.inr (by decide)) (Or.inr (by decide))).trans pf1
  have pf2 := (yz15232.1 _ 29 (Or.inr (by decide)) (Or.inr (by decide)) (Or.inr (by decide))).trans pf2
  have pf4 := (yz15232.1 _ 8 (Or.inr (by decide)) (Or.inr (by decide)) (Or.inr (by decide))).trans pf4
  have hfr : (∀ b j : Nat, (tag b ≠ 46 ∨ j ≠ 8) → (tag b ≠ 46 ∨ j ≠ 9) → (tag b ≠ 46 ∨ j ≠ 10) → (tag b ≠ 46 ∨ j ≠ 11) → (tag b ≠ 46 ∨ j ≠ 12) → (tag b ≠ 46 ∨ j ≠ 13) → (tag b ≠ 46 ∨ j ≠ 14) → (tag b ≠ 46 ∨ j ≠ 15) → fld F b j = fld Fo b j) ∧ (∀ b j : Nat, elm F b j = elm Fo b j) := ⟨fun b j n46_8 n46_9 n46_10 n46_11 n46_12 n46_13 n46_14 n46_15 => (yz15232.1 b j n46_9 n46_13 n46_14).trans (hfr.1 b j n46_8 n46_9 n46_10 n46_11 n46_12 n46_13 n46_14 n46_15), fun b j  => (yz15232.2 b j ).trans (hfr.2 b j )⟩
  have hstk := STK.tr hstk stz15232
  have hspt := SPT.tr hspt ptz15232
  refine lv_istore_n (lv' := [(3, .int z15232), (0, .ref p0), (1, .int p1), (2, .int p2)]) hx hb dX13_readWhole_6 rfl hl (by decide) rfl (fun ls hl => ?_)
  refine lv_aload_n hx hb dX13_readWhole_7 rfl (lv_at hl 1 rfl) ?_
  refine t_cVv (n := 0) (C := RX13) (T := TX13) (N := 37) (As := []) (rest := []) X hT (km14_X13_goesOn l G tag L F hT.2.2.2 p0 x0 x1 x2 soz15232 spz15232 faz15232 m0 g0 mx0 gx0 pf0 mx1 gx1 pf1 mx2 gx2 pf2 (by omega) qsoz15232 (by omega) qspz15232 (by omega) qfaz15232 hkf) m0 g0 rfl rfl qw_508 qw_509 qw_510 qw_5 qw_511 ⟨rfl, by decide +kernel, by decide +kernel, by decide +kernel⟩ ⟨Nat.le_of_ble_eq_true rfl, Nat.le_of_ble_eq_true rfl⟩ hl rfl rfl (Nat.le_of_ble_eq_true rfl) dX13_readWhole_8 ⟨Nat.le_of_ble_eq_true rfl, Nat.le_of_ble_eq_true rfl⟩ (fun F H locs hT hz15233 => ?_)
  obtain ⟨yz15233, ⟨soz15233, spz15233, faz15233, qsoz15233, qspz15233, qfaz15233, rsoz15233, rspz15233, rfaz15233, stz15233, ptz15233, hkf⟩⟩ := hz15233
  have pf0 := (yz15233.1 _ 4 (Or.inr (by decide)) (Or.inr (by decide)) (Or.inr (by decide)) (Or.inr (by decide)) (Or.inr (by decide)) (Or.inr (by decide))).trans pf0
  have pf1 := (yz15233.1 _ 28 (Or.inr (by decide)) (Or.inr (by decide)) (Or.inr (by decide)) (Or.inr (by decide)) (Or.inr (by decide)) (Or.inr (by decide))).trans pf1
  have pf2 := (yz15233.1 _ 29 (Or.inr (by decide)) (Or.inr (by decide)) (Or.inr (by decide)) (Or.inr (by decide)) (Or.inr (by decide)) (Or.inr (by decide))).trans pf2
  have qfaz15232 := (yz15233.1 _ 13 (Or.inr (by decide)) (Or.inr (by decide)) (Or.inr (by decide)) (Or.inr (by decide)) (Or.inr (by decide)) (Or.inr (by decide))).trans qfaz15232
  have hfr : (∀ b j : Nat, (tag b ≠ 46 ∨ j ≠ 8) → (tag b ≠ 46 ∨ j ≠ 9) → (tag b ≠ 46 ∨ j ≠ 10) → (tag b ≠ 46 ∨ j ≠ 11) → (tag b ≠ 46 ∨ j ≠ 12) → (tag b ≠ 46 ∨ j ≠ 13) → (tag b ≠ 46 ∨ j ≠ 14) → (tag b ≠ 46 ∨ j ≠ 15) → fld F b j = fld Fo b j) ∧ (∀ b j : Nat, elm F b j = elm Fo b j) := ⟨fun b j n46_8 n46_9 n46_10 n46_11 n46_12 n46_13 n46_14 n46_15 => (yz15233.1 b j n46_8 n46_9 n46_10 n46_11 n46_12 n46_15).trans (hfr.1 b j n46_8 n46_9 n46_10 n46_11 n46_12 n46_13 n46_14 n46_15), fun b j  => (yz15233.2 b j ).trans (hfr.2 b j )⟩
  have hstk := STK.tr hstk stz15233
  have hspt := SPT.tr hspt ptz15233
  refine lv_iload_n hx hb dX13_readWhole_11 rfl (lv_at hl 0 rfl) ?_
  exact t_iret hQ X hT (⟨(by omega), hfr, ⟨soz15233, spz15233, faz15233, qsoz15233, qspz15233, qfaz15233, (by omega), (by omega), (by omega), hstk, hspt, hkf⟩⟩) (Nat.le_of_ble_eq_true rfl) (Nat.le_of_ble_eq_true rfl) dX13_readWhole_12
set_option maxHeartbeats 4000000 in
set_option maxRecDepth 100000 in
theorem km43_X13_readPart (l : Launch) (G : KG) (tag : Nat → Nat) (L : List Nat) (Fo : Nat → va_E) (ho : okT G ttC tag L Fo) (p0 : Nat) (p1 : Nat) (p2 : Int32) (p3 : Int32) (x0 : Nat) (x1 : Nat) (x2 : Nat) (x3 : Int32) (x4 : Int32) (x5 : Int32) (m0 : p0 ∈ L) (g0 : tag p0 = 46) (h1 : p1 < 77) (h2 : 0 ≤ p2.toInt ∧ p2.toInt ≤ 0) (h3 : 99 ≤ p3.toInt ∧ p3.toInt ≤ 99) (mx0 : x0 ∈ L) (gx0 : tag x0 = 44) (pf0 : fld Fo p0 4 = .ref x0) (mx1 : x1 ∈ L) (gx1 : tag x1 = 35) (pf1 : fld Fo x0 28 = .ref x1) (mx2 : x2 ∈ L) (gx2 : tag x2 = 36) (pf2 : fld Fo x0 29 = .ref x2) (hx3 : 0 ≤ x3.toInt ∧ x3.toInt ≤ 5) (pf3 : fld Fo p0 9 = .int x3) (hx4 : 0 ≤ x4.toInt ∧ x4.toInt ≤ 1000) (pf4 : fld Fo p0 8 = .int x4) (hx5 : 0 ≤ x5.toInt ∧ x5.toInt ≤ 7) (pf5 : fld Fo p0 13 = .int x5) (hkf : KF x3 x5) : TMi l yX13_readPart cX13_readPart 4 (some .int) { frames := 7, cells := 0, slots := 0, locals := 150 } G ttC tag L Fo [.ref p0, .ref (G.2 (100 + p1)), .int p2, .int p3] (fun r F1 => (0 ≤ r.toInt ∧ r.toInt ≤ 99) ∧ ((∀ b j : Nat, (tag b ≠ 46 ∨ j ≠ 8) → (tag b ≠ 46 ∨ j ≠ 9) → (tag b ≠ 46 ∨ j ≠ 10) → (tag b ≠ 46 ∨ j ≠ 11) → (tag b ≠ 46 ∨ j ≠ 12) → (tag b ≠ 46 ∨ j ≠ 13) → (tag b ≠ 46 ∨ j ≠ 14) → (tag b ≠ 46 ∨ j ≠ 15) → fld F1 b j = fld Fo b j) ∧ (∀ b j : Nat, elm F1 b j = elm Fo b j)) ∧ (∃ so sp fa : Int32, fld F1 p0 9 = .int so ∧ fld F1 p0 8 = .int sp ∧ fld F1 p0 13 = .int fa ∧ (0 ≤ so.toInt ∧ so.toInt ≤ 5) ∧ (0 ≤ sp.toInt ∧ sp.toInt ≤ 1000) ∧ (0 ≤ fa.toInt ∧ fa.toInt ≤ 7) ∧ STK x3 so ∧ SPT x3 x4 so sp ∧ KF so fa)) := by
  refine t_bodyi (y := yX13_readPart) (cd := cX13_readPart) (mL := 4) (rt := (some .int)) (rm := { frames := 7, cells := 0, slots := 0, locals := 150 }) (av := [.ref p0, .ref (G.2 (100 + p1)), .int p2, .int p3]) (by decide) (Nat.le_of_ble_eq_true rfl) ho ?_
  intro p e s m args below meth c ls A Q hQ X hT hl
  have hx := X.1.1
  have hb := X.1.2.1
  have hl : lv_has ls 4 [(0, .ref p0), (1, .ref (G.2 (100 + p1))), (2, .int p2), (3, .int p3)] := hl
  obtain ⟨F, hFo⟩ : ∃ F : Nat → va_E, F = Fo := ⟨_, rfl⟩
  rw [← hFo] at hT pf0 pf1 pf2 pf3 pf4 pf5
  have hfr : (∀ b j : Nat, (tag b ≠ 46 ∨ j ≠ 8) → (tag b ≠ 46 ∨ j ≠ 9) → (tag b ≠ 46 ∨ j ≠ 10) → (tag b ≠ 46 ∨ j ≠ 11) → (tag b ≠ 46 ∨ j ≠ 12) → (tag b ≠ 46 ∨ j ≠ 13) → (tag b ≠ 46 ∨ j ≠ 14) → (tag b ≠ 46 ∨ j ≠ 15) → fld F b j = fld Fo b j) ∧ (∀ b j : Nat, elm F b j = elm Fo b j) := by
    rw [hFo]
    exact ⟨by intros; rfl, by intros; rfl⟩
  have hstk : STK x3 x3 := STK.rf
  have hspt : SPT x3 x4 x3 x4 := SPT.rf
  refine lv_aload_n hx hb dX13_readPart_0 rfl (lv_at hl 0 rfl) ?_
  refine lv_aload_n hx hb dX13_readPart_1 rfl (lv_at hl 1 rfl) ?_
  refine t_cVv (n := 1) (C := RX13) (T := TX13) (N := 37) (As := [.ref (G.2 (100 + p1))]) (rest := []) X hT (km40_X13_needs l G tag L F hT.2.2.2 p0 p1 x0 x1 x2 x3 x4 x5 m0 g0 h1 mx0 gx0 pf0 mx1 gx1 pf1 mx2 gx2 pf2 (by omega) pf3 (by omega) pf4 (by omega) pf5 hkf) m0 g0 rfl rfl qw_556 qw_557 qw_558 qw_5 qw_559 ⟨rfl, by decide +kernel, by decide +kernel, by decide +kernel⟩ ⟨Nat.le_of_ble_eq_true rfl, Nat.le_of_ble_eq_true rfl⟩ hl rfl rfl (Nat.le_of_ble_eq_true rfl) dX13_readPart_2 ⟨Nat.le_of_ble_eq_true rfl, Nat.le_of_ble_eq_true rfl⟩ (fun F H locs hT hz15255 => ?_)
  obtain ⟨yz15255, ⟨soz15255, spz15255, faz15255, qsoz15255, qspz15255, qfaz15255, rsoz15255, rspz15255, rfaz15255, stz15255, ptz15255, hkf⟩⟩ := hz15255
  have pf0 := (yz15255.1 _ 4 (Or.inr (by decide)) (Or.inr (by decide)) (Or.inr (by decide)) (Or.inr (by decide)) (Or.inr (by decide)) (Or.inr (by decide)) (Or.inr (by decide)) (Or.inr (by decide))).trans pf0
  have pf1 := (yz15255.1 _ 28 (Or.inr (by decide)) (Or.inr (by decide)) (Or.inr (by decide)) (Or.inr (by decide)) (Or.inr (by decide)) (Or.inr (by decide)) (Or.inr (by decide)) (Or.inr (by decide))).trans pf1
  have pf2 := (yz15255.1 _ 29 (Or.inr (by decide)) (Or.inr (by decide)) (Or.inr (by decide)) (Or.inr (by decide)) (Or.inr (by decide)) (Or.inr (by decide)) (Or.inr (by decide)) (Or.inr (by decide))).trans pf2
  have hfr : (∀ b j : Nat, (tag b ≠ 46 ∨ j ≠ 8) → (tag b ≠ 46 ∨ j ≠ 9) → (tag b ≠ 46 ∨ j ≠ 10) → (tag b ≠ 46 ∨ j ≠ 11) → (tag b ≠ 46 ∨ j ≠ 12) → (tag b ≠ 46 ∨ j ≠ 13) → (tag b ≠ 46 ∨ j ≠ 14) → (tag b ≠ 46 ∨ j ≠ 15) → fld F b j = fld Fo b j) ∧ (∀ b j : Nat, elm F b j = elm Fo b j) := ⟨fun b j n46_8 n46_9 n46_10 n46_11 n46_12 n46_13 n46_14 n46_15 => (yz15255.1 b j n46_8 n46_9 n46_10 n46_11 n46_12 n46_13 n46_14 n46_15).trans (hfr.1 b j n46_8 n46_9 n46_10 n46_11 n46_12 n46_13 n46_14 n46_15), fun b j  => (yz15255.2 b j ).trans (hfr.2 b j )⟩
  have hstk := STK.tr hstk stz15255
  have hspt := SPT.tr hspt ptz15255
  refine lv_aload_n hx hb dX13_readPart_5 rfl (lv_at hl 0 rfl) ?_
  refine lv_iload_n hx hb dX13_readPart_6 rfl (lv_at hl 2 rfl) ?_
  refine lv_iload_n hx hb dX13_readPart_7 rfl (lv_at hl 3 rfl) ?_
  refine t_cVi (n := 2) (C := RX13) (T := TX13) (N := 37) (As := [.int p2, .int p3]) (rest := []) X hT (km42_X13_readWhole l G tag L F hT.2.2.2 p0 p2 p3 x0 x1 x2 soz15255 spz15255 faz15255 m0 g0 (by omega) (by omega) mx0 gx0 pf0 mx1 gx1 pf1 mx2 gx2 pf2 (by omega) qsoz15255 (by omega) qspz15255 (by omega) qfaz15255 hkf) m0 g0 rfl rfl qw_560 qw_561 qw_562 qw_5 qw_563 ⟨rfl, by decide +kernel, by decide +kernel, by decide +kernel⟩ ⟨Nat.le_of_ble_eq_true rfl, Nat.le_of_ble_eq_true rfl⟩ hl rfl rfl (Nat.le_of_ble_eq_true rfl) dX13_readPart_8 ⟨Nat.le_of_ble_eq_true rfl, Nat.le_of_ble_eq_true rfl⟩ (fun z15256 F H locs hT hz15256 => ?_)
  obtain ⟨hz15256, yz15256, ⟨soz15256, spz15256, faz15256, qsoz15256, qspz15256, qfaz15256, rsoz15256, rspz15256, rfaz15256, stz15256, ptz15256, hkf⟩⟩ := hz15256
  have pf0 := (yz15256.1 _ 4 (Or.inr (by decide)) (Or.inr (by decide)) (Or.inr (by decide)) (Or.inr (by decide)) (Or.inr (by decide)) (Or.inr (by decide)) (Or.inr (by decide)) (Or.inr (by decide))).trans pf0
  have pf1 := (yz15256.1 _ 28 (Or.inr (by decide)) (Or.inr (by decide)) (Or.inr (by decide)) (Or.inr (by decide)) (Or.inr (by decide)) (Or.inr (by decide)) (Or.inr (by decide)) (Or.inr (by decide))).trans pf1
  have pf2 := (yz15256.1 _ 29 (Or.inr (by decide)) (Or.inr (by decide)) (Or.inr (by decide)) (Or.inr (by decide)) (Or.inr (by decide)) (Or.inr (by decide)) (Or.inr (by decide)) (Or.inr (by decide))).trans pf2
  have hfr : (∀ b j : Nat, (tag b ≠ 46 ∨ j ≠ 8) → (tag b ≠ 46 ∨ j ≠ 9) → (tag b ≠ 46 ∨ j ≠ 10) → (tag b ≠ 46 ∨ j ≠ 11) → (tag b ≠ 46 ∨ j ≠ 12) → (tag b ≠ 46 ∨ j ≠ 13) → (tag b ≠ 46 ∨ j ≠ 14) → (tag b ≠ 46 ∨ j ≠ 15) → fld F b j = fld Fo b j) ∧ (∀ b j : Nat, elm F b j = elm Fo b j) := ⟨fun b j n46_8 n46_9 n46_10 n46_11 n46_12 n46_13 n46_14 n46_15 => (yz15256.1 b j n46_8 n46_9 n46_10 n46_11 n46_12 n46_13 n46_14 n46_15).trans (hfr.1 b j n46_8 n46_9 n46_10 n46_11 n46_12 n46_13 n46_14 n46_15), fun b j  => (yz15256.2 b j ).trans (hfr.2 b j )⟩
  have hstk := STK.tr hstk stz15256
  have hspt := SPT.tr hspt ptz15256
  exact t_iret hQ X hT (⟨(by omega), hfr, ⟨soz15256, spz15256, faz15256, qsoz15256, qspz15256, qfaz15256, (by omega), (by omega), (by omega), hstk, hspt, hkf⟩⟩) (Nat.le_of_ble_eq_true rfl) (Nat.le_of_ble_eq_true rfl) dX13_readPart_11
set_option maxHeartbeats 4000000 in
set_option maxRecDepth 100000 in
theorem km44_X12_y (l : Launch) (G : KG) (tag : Nat → Nat) (L : List Nat) (F : Nat → va_E) (ho : okT G ttC tag L F) (p0 : Nat) (p1 : Int32) (x0 : Int32) (m0 : p0 ∈ L) (g0 : tag p0 = 44) (h1 : 0 ≤ p1.toInt ∧ p1.toInt ≤ 3) (hx0 : 1 ≤ x0.toInt ∧ x0.toInt ≤ 12) (pf0 : fld F p0 0 = .int x0) : TMi l yX12_y cX12_y 2 (some .int) { frames := 0, cells := 0, slots := 0, locals := 0 } G ttC tag L F [.ref p0, .int p1] (fun r F1 => F1 = F ∧ (0 ≤ r.toInt ∧ r.toInt ≤ 143)) := by
  refine t_bodyi (y := yX12_y) (cd := cX12_y) (mL := 2) (rt := (some .int)) (rm := { frames := 0, cells := 0, slots := 0, locals := 0 }) (av := [.ref p0, .int p1]) (by decide) (Nat.le_of_ble_eq_true rfl) ho ?_
  intro p e s m args below meth c ls A Q hQ X hT hl
  have hx := X.1.1
  have hb := X.1.2.1
  have hl : lv_has ls 2 [(0, .ref p0), (1, .int p1)] := hl
  refine lv_aload_n hx hb dX12_y_0 rfl (lv_at hl 0 rfl) ?_
  refine t_get (C := RX12) (T := TX12) (N := 31) X hT m0 g0 rfl rfl 21 (by decide) qw_498 inlX12 rfl dX12_y_1 (fun v15338 hv15338 ov15338 => ?_)
  obtain ⟨b15339, rfl, mb15339, gb15339⟩ := okV_r ov15338
  have gb15339 : tag b15339 = 30 := tg_of gb15339
  refine lv_iload_n hx hb dX12_y_4 rfl (lv_at hl 1 rfl) ?_
  refine t_ild X hT mb15339 gb15339 rfl (by omega) dX12_y_5 (fun z15340 vz15340 rz15340 => ?_)
  have rz15340 : 0 ≤ z15340.toInt ∧ z15340.toInt ≤ 143 := rz15340
  refine lv_aload_n hx hb dX12_y_6 rfl (lv_at hl 0 rfl) ?_
  refine t_get (C := RX12) (T := TX12) (N := 31) X hT m0 g0 rfl rfl 0 (by decide) qw_627 inlX12 rfl dX12_y_7 (fun v15341 hv15341 ov15341 => ?_)
  obtain rfl : v15341 = .int x0 := hv15341.symm.trans pf0
  refine lv_idiv hx hb dX12_y_10 (ne0_of (by omega)) ?_
  refine lv_topi (fun z15342 ez15342 => ?_)
  have rz15342 : 0 ≤ z15342.toInt ∧ z15342.toInt ≤ 143 := ar_divv ez15342 (A := 143) (by omega) (by omega)
  exact t_iret hQ X hT (⟨rfl, (by omega)⟩) (Nat.le_of_ble_eq_true rfl) (Nat.le_of_ble_eq_true rfl) dX12_y_11
set_option maxHeartbeats 4000000 in
set_option maxRecDepth 100000 in
theorem km45_X12_x (l : Launch) (G : KG) (tag : Nat → Nat) (L : List Nat) (F : Nat → va_E) (ho : okT G ttC tag L F) (p0 : Nat) (p1 : Int32) (x0 : Int32) (m0 : p0 ∈ L) (g0 : tag p0 = 44) (h1 : 0 ≤ p1.toInt ∧ p1.toInt ≤ 3) (hx0 : 1 ≤ x0.toInt ∧ x0.toInt ≤ 12) (pf0 : fld F p0 0 = .int x0) : TMi l yX12_x cX12_x 2 (some .int) { frames := 0, cells := 0, slots := 0, locals := 0 } G ttC tag L F [.ref p0, .int p1] (fun r F1 => F1 = F ∧ (0 ≤ r.toInt ∧ r.toInt ≤ 11)) := by
  refine t_bodyi (y := yX12_x) (cd := cX12_x) (mL := 2) (rt := (some .int)) (rm := { frames := 0, cells := 0, slots := 0, locals := 0 }) (av := [.ref p0, .int p1]) (by decide) (Nat.le_of_ble_eq_true rfl) ho ?_
  intro p e s m args below meth c ls A Q hQ X hT hl
  have hx := X.1.1
  have hb := X.1.2.1
  have hl : lv_has ls 2 [(0, .ref p0), (1, .int p1)] := hl
  refine lv_aload_n hx hb dX12_x_0 rfl (lv_at hl 0 rfl) ?_
  refine t_get (C := RX12) (T := TX12) (N := 31) X hT m0 g0 rfl rfl 21 (by decide) qw_498 inlX12 rfl dX12_x_1 (fun v15405 hv15405 ov15405 => ?_)
  obtain ⟨b15406, rfl, mb15406, gb15406⟩ := okV_r ov15405
  have gb15406 : tag b15406 = 30 := tg_of gb15406
  refine lv_iload_n hx hb dX12_x_4 rfl (lv_at hl 1 rfl) ?_
  refine t_ild X hT mb15406 gb15406 rfl (by omega) dX12_x_5 (fun z15407 vz15407 rz15407 => ?_)
  have rz15407 : 0 ≤ z15407.toInt ∧ z15407.toInt ≤ 143 := rz15407
  refine lv_aload_n hx hb dX12_x_6 rfl (lv_at hl 0 rfl) ?_
  refine t_get (C := RX12) (T := TX12) (N := 31) X hT m0 g0 rfl rfl 0 (by decide) qw_627 inlX12 rfl dX12_x_7 (fun v15408 hv15408 ov15408 => ?_)
  obtain rfl : v15408 = .int x0 := hv15408.symm.trans pf0
  refine lv_irem hx hb dX12_x_10 (ne0_of (by omega)) ?_
  refine lv_topi (fun z15409 ez15409 => ?_)
  have hz15409 := ar_remv ez15409 (by omega) (by omega)
  have rz15409 : 0 ≤ z15409.toInt ∧ z15409.toInt ≤ 11 := by omega
  exact t_iret hQ X hT (⟨rfl, (by omega)⟩) (Nat.le_of_ble_eq_true rfl) (Nat.le_of_ble_eq_true rfl) dX12_x_11
set_option maxHeartbeats 4000000 in
set_option maxRecDepth 100000 in
theorem km46_X12_far (l : Launch) (G : KG) (tag : Nat → Nat) (L : List Nat) (F : Nat → va_E) (ho : okT G ttC tag L F) (p0 : Nat) (p1 : Int32) (p2 : Int32) (p3 : Int32) (x0 : Int32) (m0 : p0 ∈ L) (g0 : tag p0 = 44) (h1 : 0 ≤ p1.toInt ∧ p1.toInt ≤ 3) (hx0 : 1 ≤ x0.toInt ∧ x0.toInt ≤ 12) (pf0 : fld F p0 0 = .int x0) : TMi l yX12_far cX12_far 6 (some .int) { frames := 1, cells := 0, slots := 0, locals := 21 } G ttC tag L F [.ref p0, .int p1, .int p2, .int p3] (fun r F1 => F1 = F ∧ ((-2147483648) ≤ r.toInt ∧ r.toInt ≤ 2147483647)) := by
  refine t_bodyi (y := yX12_far) (cd := cX12_far) (mL := 6) (rt := (some .int)) (rm := { frames := 1, cells := 0, slots := 0, locals := 21 }) (av := [.ref p0, .int p1, .int p2, .int p3]) (by decide) (Nat.le_of_ble_eq_true rfl) ho ?_
  intro p e s m args below meth c ls A Q hQ X hT hl
  have hx := X.1.1
  have hb := X.1.2.1
  have hl : lv_has ls 6 [(0, .ref p0), (1, .int p1), (2, .int p2), (3, .int p3)] := hl
  have rp2 := rg_all p2
  have rp3 := rg_all p3
  have K54 : ∀ (z15642 : Int32) (z15643 : Int32) (z15644 : Int32) (H : Heap) (locs : List Loc) (ls : Array Slot), (1 ≤ z15644.toInt ∧ z15644.toInt ≤ 12) → TH G ttC A s tag L F H locs → (fld F p0 0 = .int z15644) → lv_has ls 6 [(0, .ref p0), (1, .int p1), (2, .int p2), (3, .int p3), (4, .int z15642)] → W p l e { frames := 1, cells := 0, slots := 0, locals := 21 } s m args below meth c H locs 0 0 Q (F0 m 54 ls [.int z15643]) := by
    intro z15642 z15643 z15644 H locs ls rz15644 hT qz15644 hl
    have rz15642 := rg_all z15642
    have rz15643 := rg_all z15643
    refine lv_istore (lv' := [(5, .int z15643), (0, .ref p0), (1, .int p1), (2, .int p2), (3, .int p3), (4, .int z15642)]) hx hb dX12_far_54 hl (by decide) rfl (fun ls hl => ?_)
    refine lv_iload hx hb dX12_far_56 (lv_at hl 5 rfl) ?_
    refine lv_iload hx hb dX12_far_58 (lv_at hl 0 rfl) ?_
    refine lv_icmp_le (tgt := 68) hx hb dX12_far_60 (by decide) (fun c15645 => ?_) (fun c15645 => ?_)
    · have w15646 := cv_le (rfl : z15642.toInt = z15642.toInt) (rfl : z15643.toInt = z15643.toInt) c15645
      refine lv_iload hx hb dX12_far_68 (lv_at hl 0 rfl) ?_
      exact t_iret hQ X hT (⟨rfl, rg_all _⟩) (Nat.le_of_ble_eq_true rfl) (Nat.le_of_ble_eq_true rfl) dX12_far_70
    · have w15647 := cv_nle (rfl : z15642.toInt = z15642.toInt) (rfl : z15643.toInt = z15643.toInt) c15645
      refine lv_iload hx hb dX12_far_63 (lv_at hl 5 rfl) ?_
      refine lv_goto (tgt := 70) hx hb dX12_far_65 (by decide) ?_
      exact t_iret hQ X hT (⟨rfl, rg_all _⟩) (Nat.le_of_ble_eq_true rfl) (Nat.le_of_ble_eq_true rfl) dX12_far_70
  have K26 : ∀ (z15648 : Int32) (z15649 : Int32) (H : Heap) (locs : List Loc) (ls : Array Slot), (1 ≤ z15649.toInt ∧ z15649.toInt ≤ 12) → TH G ttC A s tag L F H locs → (fld F p0 0 = .int z15649) → lv_has ls 6 [(0, .ref p0), (1, .int p1), (2, .int p2), (3, .int p3)] → W p l e { frames := 1, cells := 0, slots := 0, locals := 21 } s m args below meth c H locs 0 0 Q (F0 m 26 ls [.int z15648]) := by
    intro z15648 z15649 H locs ls rz15649 hT qz15649 hl
    have rz15648 := rg_all z15648
    refine lv_istore (lv' := [(4, .int z15648), (0, .ref p0), (1, .int p1), (2, .int p2), (3, .int p3)]) hx hb dX12_far_26 hl (by decide) rfl (fun ls hl => ?_)
    refine lv_iload_n hx hb dX12_far_28 rfl (lv_at hl 4 rfl) ?_
    refine lv_aload_n hx hb dX12_far_29 rfl (lv_at hl 1 rfl) ?_
    refine lv_iload_n hx hb dX12_far_30 rfl (lv_at hl 2 rfl) ?_
    refine t_cVi (n := 1) (C := RX12) (T := TX12) (N := 31) (As := [.int p1]) (rest := [.int p3]) X hT (km44_X12_y l G tag L F hT.2.2.2 p0 p1 z15649 m0 g0 (by omega) (by omega) qz15649) m0 g0 rfl rfl qw_628 qw_629 qw_630 qw_476 qw_631 ⟨rfl, by decide +kernel, by decide +kernel, by decide +kernel⟩ ⟨Nat.le_of_ble_eq_true rfl, Nat.le_of_ble_eq_true rfl⟩ hl rfl rfl (Nat.le_of_ble_eq_true rfl) dX12_far_31 ⟨Nat.le_of_ble_eq_true rfl, Nat.le_of_ble_eq_true rfl⟩ (fun z15650 F9 H locs hT hz15650 => ?_)
    obtain ⟨fz15650, hz15650⟩ := hz15650
    rw [fz15650] at hT
    refine lv_icmp_le (tgt := 47) hx hb dX12_far_34 (by decide) (fun c15651 => ?_) (fun c15651 => ?_)
    · have w15652 := cv_le (rfl : p3.toInt = p3.toInt) (rfl : z15650.toInt = z15650.toInt) c15651
      refine lv_aload_n hx hb dX12_far_47 rfl (lv_at hl 1 rfl) ?_
      refine lv_iload_n hx hb dX12_far_48 rfl (lv_at hl 2 rfl) ?_
      refine t_cVi (n := 1) (C := RX12) (T := TX12) (N := 31) (As := [.int p1]) (rest := []) X hT (km44_X12_y l G tag L F hT.2.2.2 p0 p1 z15649 m0 g0 (by omega) (by omega) qz15649) m0 g0 rfl rfl qw_628 qw_629 qw_630 qw_476 qw_631 ⟨rfl, by decide +kernel, by decide +kernel, by decide +kernel⟩ ⟨Nat.le_of_ble_eq_true rfl, Nat.le_of_ble_eq_true rfl⟩ hl rfl rfl (Nat.le_of_ble_eq_true rfl) dX12_far_49 ⟨Nat.le_of_ble_eq_true rfl, Nat.le_of_ble_eq_true rfl⟩ (fun z15653 F9 H locs hT hz15653 => ?_)
      obtain ⟨fz15653, hz15653⟩ := hz15653
      rw [fz15653] at hT
      refine lv_iload_n hx hb dX12_far_52 rfl (lv_at hl 4 rfl) ?_
      refine lv_isub hx hb dX12_far_53 ?_
      refine lv_topi (fun z15654 ez15654 => ?_)
      have rz15654 := rg_all z15654
      exact K54 z15648 z15654 z15649 _ _ _ (by omega) hT qz15649 (lv_sub hl [1, 2, 3, 4, 0] rfl)
    · have w15655 := cv_nle (rfl : p3.toInt = p3.toInt) (rfl : z15650.toInt = z15650.toInt) c15651
      refine lv_iload_n hx hb dX12_far_37 rfl (lv_at hl 4 rfl) ?_
      refine lv_aload_n hx hb dX12_far_38 rfl (lv_at hl 1 rfl) ?_
      refine lv_iload_n hx hb dX12_far_39 rfl (lv_at hl 2 rfl) ?_
      refine t_cVi (n := 1) (C := RX12) (T := TX12) (N := 31) (As := [.int p1]) (rest := [.int p3]) X hT (km44_X12_y l G tag L F hT.2.2.2 p0 p1 z15649 m0 g0 (by omega) (by omega) qz15649) m0 g0 rfl rfl qw_628 qw_629 qw_630 qw_476 qw_631 ⟨rfl, by decide +kernel, by decide +kernel, by decide +kernel⟩ ⟨Nat.le_of_ble_eq_true rfl, Nat.le_of_ble_eq_true rfl⟩ hl rfl rfl (Nat.le_of_ble_eq_true rfl) dX12_far_40 ⟨Nat.le_of_ble_eq_true rfl, Nat.le_of_ble_eq_true rfl⟩ (fun z15656 F9 H locs hT hz15656 => ?_)
      obtain ⟨fz15656, hz15656⟩ := hz15656
      rw [fz15656] at hT
      refine lv_isub hx hb dX12_far_43 ?_
      refine lv_topi (fun z15657 ez15657 => ?_)
      have hz15657 : z15657.toInt = p3.toInt - z15656.toInt := ar_sub ez15657 (rfl : p3.toInt = p3.toInt) (rfl : z15656.toInt = z15656.toInt) (by omega) (by omega)
      have rz15657 : (-142) ≤ z15657.toInt ∧ z15657.toInt ≤ 2147483647 := by omega
      refine lv_goto (tgt := 54) hx hb dX12_far_44 (by decide) ?_
      exact K54 z15648 z15657 z15649 _ _ _ (by omega) hT qz15649 (lv_sub hl [1, 2, 3, 4, 0] rfl)
  refine lv_iload_n hx hb dX12_far_0 rfl (lv_at hl 2 rfl) ?_
  refine lv_aload_n hx hb dX12_far_1 rfl (lv_at hl 0 rfl) ?_
  refine lv_iload_n hx hb dX12_far_2 rfl (lv_at hl 1 rfl) ?_
  refine t_cVi (n := 1) (C := RX12) (T := TX12) (N := 31) (As := [.int p1]) (rest := [.int p2]) X hT (km45_X12_x l G tag L F hT.2.2.2 p0 p1 x0 m0 g0 (by omega) (by omega) pf0) m0 g0 rfl rfl qw_623 qw_624 qw_625 qw_476 qw_626 ⟨rfl, by decide +kernel, by decide +kernel, by decide +kernel⟩ ⟨Nat.le_of_ble_eq_true rfl, Nat.le_of_ble_eq_true rfl⟩ hl rfl rfl (Nat.le_of_ble_eq_true rfl) dX12_far_3 ⟨Nat.le_of_ble_eq_true rfl, Nat.le_of_ble_eq_true rfl⟩ (fun z15658 F9 H locs hT hz15658 => ?_)
  obtain ⟨fz15658, hz15658⟩ := hz15658
  rw [fz15658] at hT
  refine lv_icmp_le (tgt := 19) hx hb dX12_far_6 (by decide) (fun c15659 => ?_) (fun c15659 => ?_)
  · have w15660 := cv_le (rfl : p2.toInt = p2.toInt) (rfl : z15658.toInt = z15658.toInt) c15659
    refine lv_aload_n hx hb dX12_far_19 rfl (lv_at hl 0 rfl) ?_
    refine lv_iload_n hx hb dX12_far_20 rfl (lv_at hl 1 rfl) ?_
    refine t_cVi (n := 1) (C := RX12) (T := TX12) (N := 31) (As := [.int p1]) (rest := []) X hT (km45_X12_x l G tag L F hT.2.2.2 p0 p1 x0 m0 g0 (by omega) (by omega) pf0) m0 g0 rfl rfl qw_623 qw_624 qw_625 qw_476 qw_626 ⟨rfl, by decide +kernel, by decide +kernel, by decide +kernel⟩ ⟨Nat.le_of_ble_eq_true rfl, Nat.le_of_ble_eq_true rfl⟩ hl rfl rfl (Nat.le_of_ble_eq_true rfl) dX12_far_21 ⟨Nat.le_of_ble_eq_true rfl, Nat.le_of_ble_eq_true rfl⟩ (fun z15661 F9 H locs hT hz15661 => ?_)
    obtain ⟨fz15661, hz15661⟩ := hz15661
    rw [fz15661] at hT
    refine lv_iload_n hx hb dX12_far_24 rfl (lv_at hl 2 rfl) ?_
    refine lv_isub hx hb dX12_far_25 ?_
    refine lv_topi (fun z15662 ez15662 => ?_)
    have rz15662 := rg_all z15662
    exact K26 z15662 x0 _ _ _ (by omega) hT pf0 (lv_sub hl [0, 1, 2, 3] rfl)
  · have w15663 := cv_nle (rfl : p2.toInt = p2.toInt) (rfl : z15658.toInt = z15658.toInt) c15659
    refine lv_iload_n hx hb dX12_far_9 rfl (lv_at hl 2 rfl) ?_
    refine lv_aload_n hx hb dX12_far_10 rfl (lv_at hl 0 rfl) ?_
    refine lv_iload_n hx hb dX12_far_11 rfl (lv_at hl 1 rfl) ?_
    refine t_cVi (n := 1) (C := RX12) (T := TX12) (N := 31) (As := [.int p1]) (rest := [.int p2]) X hT (km45_X12_x l G tag L F hT.2.2.2 p0 p1 x0 m0 g0 (by omega) (by omega) pf0) m0 g0 rfl rfl qw_623 qw_624 qw_625 qw_476 qw_626 ⟨rfl, by decide +kernel, by decide +kernel, by decide +kernel⟩ ⟨Nat.le_of_ble_eq_true rfl, Nat.le_of_ble_eq_true rfl⟩ hl rfl rfl (Nat.le_of_ble_eq_true rfl) dX12_far_12 ⟨Nat.le_of_ble_eq_true rfl, Nat.le_of_ble_eq_true rfl⟩ (fun z15664 F9 H locs hT hz15664 => ?_)
    obtain ⟨fz15664, hz15664⟩ := hz15664
    rw [fz15664] at hT
    refine lv_isub hx hb dX12_far_15 ?_
    refine lv_topi (fun z15665 ez15665 => ?_)
    have hz15665 : z15665.toInt = p2.toInt - z15664.toInt := ar_sub ez15665 (rfl : p2.toInt = p2.toInt) (rfl : z15664.toInt = z15664.toInt) (by omega) (by omega)
    have rz15665 : (-10) ≤ z15665.toInt ∧ z15665.toInt ≤ 2147483647 := by omega
    refine lv_goto (tgt := 26) hx hb dX12_far_16 (by decide) ?_
    exact K26 z15665 x0 _ _ _ (by omega) hT pf0 (lv_sub hl [0, 1, 2, 3] rfl)
set_option maxHeartbeats 4000000 in
set_option maxRecDepth 100000 in
theorem km47_X12_isLand (l : Launch) (G : KG) (tag : Nat → Nat) (L : List Nat) (F : Nat → va_E) (ho : okT G ttC tag L F) (p0 : Nat) (p1 : Int32) (p2 : Int32) (m0 : p0 ∈ L) (g0 : tag p0 = 44) : TMi l yX12_isLand cX12_isLand 3 (some .boolean) { frames := 1, cells := 0, slots := 0, locals := 22 } G ttC tag L F [.ref p0, .int p1, .int p2] (fun r F1 => F1 = F ∧ (0 ≤ r.toInt ∧ r.toInt ≤ 1)) := by
  refine t_bodyi (y := yX12_isLand) (cd := cX12_isLand) (mL := 3) (rt := (some .boolean)) (rm := { frames := 1, cells := 0, slots := 0, locals := 22 }) (av := [.ref p0, .int p1, .int p2]) (by decide) (Nat.le_of_ble_eq_true rfl) ho ?_
  intro p e s m args below meth c ls A Q hQ X hT hl
  have hx := X.1.1
  have hb := X.1.2.1
  have hl : lv_has ls 3 [(0, .ref p0), (1, .int p1), (2, .int p2)] := hl
  have rp1 := rg_all p1
  have rp2 := rg_all p2
  refine lv_iload_n hx hb dX12_isLand_0 rfl (lv_at hl 1 rfl) ?_
  refine lv_iconst (v := 0) hx hb dX12_isLand_1 (by decide) ?_
  refine lv_aload_n hx hb dX12_isLand_2 rfl (lv_at hl 0 rfl) ?_
  refine t_get (C := RX12) (T := TX12) (N := 31) X hT m0 g0 rfl rfl 0 (by decide) qw_627 inlX12 rfl dX12_isLand_3 (fun v15966 hv15966 ov15966 => ?_)
  obtain ⟨z15967, rfl, rz15967⟩ := okV_i ov15966
  refine lv_iconst (v := 1) hx hb dX12_isLand_6 (by decide) ?_
  refine lv_isub hx hb dX12_isLand_7 ?_
  refine lv_topi (fun z15968 ez15968 => ?_)
  have hz15968 : z15968.toInt = z15967.toInt - 1 := ar_sub ez15968 (rfl : z15967.toInt = z15967.toInt) (by decide : (1 : Int32).toInt = 1) (by omega) (by omega)
  have rz15968 : (-1) ≤ z15968.toInt ∧ z15968.toInt ≤ 11 := by omega
  refine t_cNi (n := 3) (host := "YearSkinsModel") (As := [.int p1, .int 0, .int z15968]) (rest := []) X hT (km19_X13_within l G tag L F hT.2.2.2 p1 0 z15968 ) (List.mem_of_getElem? (i := 9) rfl) qw_569 qw_5 qw_570 ⟨by decide +kernel, by decide +kernel, by decide +kernel⟩ ⟨Nat.le_of_ble_eq_true rfl, Nat.le_of_ble_eq_true rfl⟩ hl rfl rfl (Nat.le_of_ble_eq_true rfl) dX12_isLand_8 ⟨Nat.le_of_ble_eq_true rfl, Nat.le_of_ble_eq_true rfl⟩ (fun z15969 F9 H locs hT hz15969 => ?_)
  obtain ⟨fz15969, hz15969, xz15969_0⟩ := hz15969
  rw [fz15969] at hT
  have k15970 : (0 : Int32).toInt = 0 := by decide
  refine lv_if_eq (tgt := 48) hx hb dX12_isLand_11 (by decide) (fun c15971 => ?_) (fun c15971 => ?_)
  · have w15972 := cv_eq (rfl : z15969.toInt = z15969.toInt) (by decide : (0 : Int32).toInt = 0) c15971
    refine lv_iconst (v := 0) hx hb dX12_isLand_48 (by decide) ?_
    have k15973 : (0 : Int32).toInt = 0 := by decide
    exact t_zret hQ X hT (by decide) (⟨rfl, (by decide)⟩) (Nat.le_of_ble_eq_true rfl) (Nat.le_of_ble_eq_true rfl) dX12_isLand_49
  · have w15974 := cv_ne (rfl : z15969.toInt = z15969.toInt) (by decide : (0 : Int32).toInt = 0) c15971
    have w15975 := xz15969_0 (by omega)
    refine lv_iload_n hx hb dX12_isLand_14 rfl (lv_at hl 2 rfl) ?_
    refine lv_iconst (v := 0) hx hb dX12_isLand_15 (by decide) ?_
    refine lv_aload_n hx hb dX12_isLand_16 rfl (lv_at hl 0 rfl) ?_
    refine t_get (C := RX12) (T := TX12) (N := 31) X hT m0 g0 rfl rfl 1 (by decide) qw_653 inlX12 rfl dX12_isLand_17 (fun v15976 hv15976 ov15976 => ?_)
    obtain ⟨z15977, rfl, rz15977⟩ := okV_i ov15976
    refine lv_iconst (v := 1) hx hb dX12_isLand_20 (by decide) ?_
    refine lv_isub hx hb dX12_isLand_21 ?_
    refine lv_topi (fun z15978 ez15978 => ?_)
    have hz15978 : z15978.toInt = z15977.toInt - 1 := ar_sub ez15978 (rfl : z15977.toInt = z15977.toInt) (by decide : (1 : Int32).toInt = 1) (by omega) (by omega)
    have rz15978 : (-1) ≤ z15978.toInt ∧ z15978.toInt ≤ 11 := by omega
    refine t_cNi (n := 3) (host := "YearSkinsModel") (As := [.int p2, .int 0, .int z15978]) (rest := []) X hT (km19_X13_within l G tag L F hT.2.2.2 p2 0 z15978 ) (List.mem_of_getElem? (i := 9) rfl) qw_569 qw_5 qw_570 ⟨by decide +kernel, by decide +kernel, by decide +kernel⟩ ⟨Nat.le_of_ble_eq_true rfl, Nat.le_of_ble_eq_true rfl⟩ hl rfl rfl (Nat.le_of_ble_eq_true rfl) dX12_isLand_22 ⟨Nat.le_of_ble_eq_true rfl, Nat.le_of_ble_eq_true rfl⟩ (fun z15979 F9 H locs hT hz15979 => ?_)
    obtain ⟨fz15979, hz15979, xz15979_0⟩ := hz15979
    rw [fz15979] at hT
    have k15980 : (0 : Int32).toInt = 0 := by decide
    refine lv_if_eq (tgt := 48) hx hb dX12_isLand_25 (by decide) (fun c15981 => ?_) (fun c15981 => ?_)
    · have w15982 := cv_eq (rfl : z15979.toInt = z15979.toInt) (by decide : (0 : Int32).toInt = 0) c15981
      refine lv_iconst (v := 0) hx hb dX12_isLand_48 (by decide) ?_
      have k15983 : (0 : Int32).toInt = 0 := by decide
      exact t_zret hQ X hT (by decide) (⟨rfl, (by decide)⟩) (Nat.le_of_ble_eq_true rfl) (Nat.le_of_ble_eq_true rfl) dX12_isLand_49
    · have w15984 := cv_ne (rfl : z15979.toInt = z15979.toInt) (by decide : (0 : Int32).toInt = 0) c15981
      have w15985 := xz15979_0 (by omega)
      refine lv_aload_n hx hb dX12_isLand_28 rfl (lv_at hl 0 rfl) ?_
      refine t_get (C := RX12) (T := TX12) (N := 31) X hT m0 g0 rfl rfl 15 (by decide) qw_492 inlX12 rfl dX12_isLand_29 (fun v15986 hv15986 ov15986 => ?_)
      obtain ⟨b15987, rfl, mb15987, gb15987⟩ := okV_r ov15986
      have gb15987 : tag b15987 = 28 := tg_of gb15987
      refine lv_aload_n hx hb dX12_isLand_32 rfl (lv_at hl 0 rfl) ?_
      refine t_get (C := RX12) (T := TX12) (N := 31) X hT m0 g0 rfl rfl 0 (by decide) qw_627 inlX12 rfl dX12_isLand_33 (fun v15988 hv15988 ov15988 => ?_)
      obtain rfl : v15988 = .int z15967 := hv15988.symm.trans hv15966
      refine lv_iload_n hx hb dX12_isLand_36 rfl (lv_at hl 2 rfl) ?_
      refine lv_imul hx hb dX12_isLand_37 ?_
      refine lv_topi (fun z15989 ez15989 => ?_)
      have rz15989 : 0 ≤ z15989.toInt ∧ z15989.toInt ≤ 132 := ar_mulb ez15989 (A := 12) (B := 11) (by omega) (by omega) (by decide) (by decide)
      refine lv_iload_n hx hb dX12_isLand_38 rfl (lv_at hl 1 rfl) ?_
      refine lv_iadd hx hb dX12_isLand_39 ?_
      refine lv_topi (fun z15990 ez15990 => ?_)
      have hz15990 : z15990.toInt = z15989.toInt + p1.toInt := ar_add ez15990 (rfl : z15989.toInt = z15989.toInt) (rfl : p1.toInt = p1.toInt) (by omega) (by omega)
      have rz15990 : 0 ≤ z15990.toInt ∧ z15990.toInt ≤ 143 := by omega
      refine t_zld X hT mb15987 gb15987 rfl (by omega) dX12_isLand_40 (fun z15991 vz15991 rz15991 => ?_)
      have rz15991 : 0 ≤ z15991.toInt ∧ z15991.toInt ≤ 1 := rz15991
      refine lv_if_ne (tgt := 48) hx hb dX12_isLand_41 (by decide) (fun c15992 => ?_) (fun c15992 => ?_)
      · have w15993 := cv_ne (rfl : z15991.toInt = z15991.toInt) (by decide : (0 : Int32).toInt = 0) c15992
        refine lv_iconst (v := 0) hx hb dX12_isLand_48 (by decide) ?_
        have k15994 : (0 : Int32).toInt = 0 := by decide
        exact t_zret hQ X hT (by decide) (⟨rfl, (by decide)⟩) (Nat.le_of_ble_eq_true rfl) (Nat.le_of_ble_eq_true rfl) dX12_isLand_49
      · have w15995 := cv_eq (rfl : z15991.toInt = z15991.toInt) (by decide : (0 : Int32).toInt = 0) c15992
        refine lv_iconst (v := 1) hx hb dX12_isLand_44 (by decide) ?_
        refine lv_goto (tgt := 49) hx hb dX12_isLand_45 (by decide) ?_
        have k15996 : (1 : Int32).toInt = 1 := by decide
        exact t_zret hQ X hT (by decide) (⟨rfl, (by decide)⟩) (Nat.le_of_ble_eq_true rfl) (Nat.le_of_ble_eq_true rfl) dX12_isLand_49
set_option maxHeartbeats 4000000 in
set_option maxRecDepth 100000 in
theorem km48_X13_fitsIn (l : Launch) (G : KG) (tag : Nat → Nat) (L : List Nat) (F : Nat → va_E) (ho : okT G ttC tag L F) (p0 : Nat) (p1 : Nat) (p2 : Int32) (x0 : Int32) (m0 : p0 ∈ L) (g0 : tag p0 = 44) (m1 : p1 ∈ L) (g1 : tag p1 = 37) (h2 : 0 ≤ p2.toInt ∧ p2.toInt ≤ 3) (hx0 : 1 ≤ x0.toInt ∧ x0.toInt ≤ 12) (pf0 : fld F p0 0 = .int x0) : TMi l yX13_fitsIn cX13_fitsIn 7 (some .boolean) { frames := 2, cells := 0, slots := 0, locals := 46 } G ttC tag L F [.ref p0, .ref p1, .int p2] (fun r F1 => F1 = F ∧ (0 ≤ r.toInt ∧ r.toInt ≤ 1)) := by
  refine t_bodyi (y := yX13_fitsIn) (cd := cX13_fitsIn) (mL := 7) (rt := (some .boolean)) (rm := { frames := 2, cells := 0, slots := 0, locals := 46 }) (av := [.ref p0, .ref p1, .int p2]) (by decide) (Nat.le_of_ble_eq_true rfl) ho ?_
  intro p e s m args below meth c ls A Q hQ X hT hl
  have hx := X.1.1
  have hb := X.1.2.1
  have hl : lv_has ls 7 [(0, .ref p0), (1, .ref p1), (2, .int p2)] := hl
  have K17 : ∀ (n : Nat) (z16952 : Int32) (z16953 : Int32) (z16954 : Int32) (z16955 : Int32) (H : Heap) (locs : List Loc) (ls : Array Slot), (193 - z16953.toInt < (n : Int)) → (1 ≤ z16952.toInt ∧ z16952.toInt ≤ 7) → ((-7) ≤ z16953.toInt ∧ z16953.toInt ≤ 193) → (1 ≤ z16954.toInt ∧ z16954.toInt ≤ 12) → (0 ≤ z16955.toInt ∧ z16955.toInt ≤ 6) → TH G ttC A s tag L F H locs → (fld F p0 0 = .int z16954) → (elm F p1 p2.toNatClampNeg = z16955) → lv_has ls 7 [(0, .ref p0), (1, .ref p1), (2, .int p2), (3, .int z16952), (4, .int z16953)] → W p l e { frames := 2, cells := 0, slots := 0, locals := 46 } s m args below meth c H locs 0 0 Q (F0 m 17 ls []) := by
    intro n
    induction n with
    | zero =>
      intro z16952 z16953 z16954 z16955 H locs ls hn rz16952 rz16953 rz16954 rz16955 hT qz16954 qz16955 hl
      exfalso
      omega
    | succ n ih17 =>
      intro z16952 z16953 z16954 z16955 H locs ls hn rz16952 rz16953 rz16954 rz16955 hT qz16954 qz16955 hl
      have K38 : ∀ (n : Nat) (z16957 : Int32) (z16958 : Int32) (z16959 : Int32) (H : Heap) (locs : List Loc) (ls : Array Slot), (20 - z16957.toInt < (n : Int)) → ((-7) ≤ z16957.toInt ∧ z16957.toInt ≤ 20) → (1 ≤ z16958.toInt ∧ z16958.toInt ≤ 12) → (0 ≤ z16959.toInt ∧ z16959.toInt ≤ 6) → ((-7) ≤ z16953.toInt ∧ z16953.toInt ≤ 192) → TH G ttC A s tag L F H locs → (fld F p0 0 = .int z16958) → (elm F p1 p2.toNatClampNeg = z16959) → lv_has ls 7 [(0, .ref p0), (1, .ref p1), (2, .int p2), (3, .int z16952), (4, .int z16953), (5, .int z16957)] → W p l e { frames := 2, cells := 0, slots := 0, locals := 46 } s m args below meth c H locs 0 0 Q (F0 m 38 ls []) := by
        intro n
        induction n with
        | zero =>
          intro z16957 z16958 z16959 H locs ls hn rz16957 rz16958 rz16959 r9s16956 hT qz16958 qz16959 hl
          exfalso
          omega
        | succ n ih38 =>
          intro z16957 z16958 z16959 H locs ls hn rz16957 rz16958 rz16959 r9s16956 hT qz16958 qz16959 hl
          have K162 : ∀ (z16961 : Int32) (z16962 : Int32) (H : Heap) (locs : List Loc) (ls : Array Slot), (1 ≤ z16961.toInt ∧ z16961.toInt ≤ 12) → (0 ≤ z16962.toInt ∧ z16962.toInt ≤ 6) → ((-7) ≤ z16957.toInt ∧ z16957.toInt ≤ 19) → TH G ttC A s tag L F H locs → (fld F p0 0 = .int z16961) → (elm F p1 p2.toNatClampNeg = z16962) → lv_has ls 7 [(0, .ref p0), (1, .ref p1), (2, .int p2), (3, .int z16952), (4, .int z16953), (5, .int z16957)] → W p l e { frames := 2, cells := 0, slots := 0, locals := 46 } s m args below meth c H locs 0 0 Q (F0 m 162 ls []) := by
            intro z16961 z16962 H locs ls rz16961 rz16962 r9s16960 hT qz16961 qz16962 hl
            obtain ⟨z16963, ez16963⟩ : ∃ y : Int32, y = z16957 + 1 := ⟨_, rfl⟩
            have hz16963 : z16963.toInt = z16957.toInt + 1 := ar_add ez16963 rfl (by decide : (1 : Int32).toInt = 1) (by omega) (by omega)
            refine lv_iinc (v := z16963) (lv' := [(5, .int z16963), (0, .ref p0), (1, .ref p1), (2, .int p2), (3, .int z16952), (4, .int z16953)]) hx hb dX13_fitsIn_162 hl (k := 5) rfl (by rw [ez16963]; rfl) (by decide) rfl (fun ls hl => ?_)
            refine lv_goto (tgt := 38) hx hb dX13_fitsIn_165 (by decide) ?_
            exact ih38 z16963 z16961 z16962 _ _ _ (by omega) (by omega) (by omega) (by omega) (by omega) hT qz16961 qz16962 (lv_sub hl [1, 2, 3, 4, 5, 0] rfl)
          have K82 : ∀ (n : Nat) (z16965 : Int32) (z16966 : Int32) (z16967 : Int32) (H : Heap) (locs : List Loc) (ls : Array Slot), (4 - z16965.toInt < (n : Int)) → (0 ≤ z16965.toInt ∧ z16965.toInt ≤ 4) → (1 ≤ z16966.toInt ∧ z16966.toInt ≤ 12) → (0 ≤ z16967.toInt ∧ z16967.toInt ≤ 6) → ((-7) ≤ z16957.toInt ∧ z16957.toInt ≤ 19) → TH G ttC A s tag L F H locs → (fld F p0 0 = .int z16966) → (elm F p1 p2.toNatClampNeg = z16967) → lv_has ls 7 [(0, .ref p0), (1, .ref p1), (2, .int p2), (3, .int z16952), (4, .int z16953), (5, .int z16957), (6, .int z16965)] → W p l e { frames := 2, cells := 0, slots := 0, locals := 46 } s m args below meth c H locs 0 0 Q (F0 m 82 ls []) := by
            intro n
            induction n with
            | zero =>
              intro z16965 z16966 z16967 H locs ls hn rz16965 rz16966 rz16967 r9s16964 hT qz16966 qz16967 hl
              exfalso
              omega
            | succ n ih82 =>
              intro z16965 z16966 z16967 H locs ls hn rz16965 rz16966 rz16967 r9s16964 hT qz16966 qz16967 hl
              have K156 : ∀ (z16969 : Int32) (z16970 : Int32) (z16971 : Int32) (H : Heap) (locs : List Loc) (ls : Array Slot), (1 ≤ z16969.toInt ∧ z16969.toInt ≤ 12) → (0 ≤ z16970.toInt ∧ z16970.toInt ≤ 6) → (1 ≤ z16971.toInt ∧ z16971.toInt ≤ 4) → (0 ≤ z16965.toInt ∧ z16965.toInt ≤ 3) → TH G ttC A s tag L F H locs → (fld F p0 0 = .int z16969) → (elm F p1 p2.toNatClampNeg = z16970) → (fld F p0 8 = .int z16971) → lv_has ls 7 [(0, .ref p0), (1, .ref p1), (2, .int p2), (3, .int z16952), (4, .int z16953), (5, .int z16957), (6, .int z16965)] → W p l e { frames := 2, cells := 0, slots := 0, locals := 46 } s m args below meth c H locs 0 0 Q (F0 m 156 ls []) := by
                intro z16969 z16970 z16971 H locs ls rz16969 rz16970 rz16971 r9s16968 hT qz16969 qz16970 qz16971 hl
                obtain ⟨z16972, ez16972⟩ : ∃ y : Int32, y = z16965 + 1 := ⟨_, rfl⟩
                have hz16972 : z16972.toInt = z16965.toInt + 1 := ar_add ez16972 rfl (by decide : (1 : Int32).toInt = 1) (by omega) (by omega)
                refine lv_iinc (v := z16972) (lv' := [(6, .int z16972), (0, .ref p0), (1, .ref p1), (2, .int p2), (3, .int z16952), (4, .int z16953), (5, .int z16957)]) hx hb dX13_fitsIn_156 hl (k := 6) rfl (by rw [ez16972]; rfl) (by decide) rfl (fun ls hl => ?_)
                refine lv_goto (tgt := 82) hx hb dX13_fitsIn_159 (by decide) ?_
                exact ih82 z16972 z16969 z16970 _ _ _ (by omega) (by omega) (by omega) (by omega) (by omega) hT qz16969 qz16970 (lv_sub hl [1, 2, 3, 4, 5, 6, 0] rfl)
              refine lv_iload hx hb dX13_fitsIn_82 (lv_at hl 6 rfl) ?_
              refine lv_aload_n hx hb dX13_fitsIn_84 rfl (lv_at hl 0 rfl) ?_
              refine t_getN (C := RX12) (T := TX12) (N := 31) X hT m0 g0 rfl rfl 8 (by decide) (List.mem_of_getElem? (i := 12) rfl) inlX12 rfl dX13_fitsIn_85 (fun v16973 hv16973 ov16973 => ?_)
              obtain ⟨z16974, rfl, rz16974⟩ := okV_i ov16973
              refine lv_icmp_ge (tgt := 162) hx hb dX13_fitsIn_88 (by decide) (fun c16975 => ?_) (fun c16975 => ?_)
              · have w16976 := cv_le (rfl : z16974.toInt = z16974.toInt) (rfl : z16965.toInt = z16965.toInt) c16975
                exact K162 z16966 z16967 _ _ _ (by omega) (by omega) (by omega) hT qz16966 qz16967 (lv_sub hl [0, 1, 2, 3, 4, 5] rfl)
              · have w16977 := cv_nle (rfl : z16974.toInt = z16974.toInt) (rfl : z16965.toInt = z16965.toInt) c16975
                refine lv_iload hx hb dX13_fitsIn_91 (lv_at hl 6 rfl) ?_
                refine lv_iload_n hx hb dX13_fitsIn_93 rfl (lv_at hl 2 rfl) ?_
                refine lv_icmp_eq (tgt := 156) hx hb dX13_fitsIn_94 (by decide) (fun c16978 => ?_) (fun c16978 => ?_)
                · have w16979 := cv_eq (rfl : z16965.toInt = z16965.toInt) (rfl : p2.toInt = p2.toInt) c16978
                  exact K156 z16966 z16967 z16974 _ _ _ (by omega) (by omega) (by omega) (by omega) hT qz16966 qz16967 hv16973 (lv_sub hl [0, 1, 2, 3, 4, 5, 6] rfl)
                · have w16980 := cv_ne (rfl : z16965.toInt = z16965.toInt) (rfl : p2.toInt = p2.toInt) c16978
                  refine lv_aload_n hx hb dX13_fitsIn_97 rfl (lv_at hl 0 rfl) ?_
                  refine lv_iload hx hb dX13_fitsIn_98 (lv_at hl 6 rfl) ?_
                  refine lv_iload hx hb dX13_fitsIn_100 (lv_at hl 5 rfl) ?_
                  refine lv_iload hx hb dX13_fitsIn_102 (lv_at hl 4 rfl) ?_
                  refine t_cVi (n := 3) (C := RX12) (T := TX12) (N := 31) (As := [.int z16965, .int z16957, .int z16953]) (rest := []) X hT (km46_X12_far l G tag L F hT.2.2.2 p0 z16965 z16957 z16953 z16966 m0 g0 (by omega) (by omega) qz16966) m0 g0 rfl rfl qw_619 qw_620 qw_621 qw_476 qw_622 ⟨rfl, by decide +kernel, by decide +kernel, by decide +kernel⟩ ⟨Nat.le_of_ble_eq_true rfl, Nat.le_of_ble_eq_true rfl⟩ hl rfl rfl (Nat.le_of_ble_eq_true rfl) dX13_fitsIn_104 ⟨Nat.le_of_ble_eq_true rfl, Nat.le_of_ble_eq_true rfl⟩ (fun z16981 F9 H locs hT hz16981 => ?_)
                  obtain ⟨fz16981, hz16981⟩ := hz16981
                  rw [fz16981] at hT
                  refine lv_aload_n hx hb dX13_fitsIn_107 rfl (lv_at hl 1 rfl) ?_
                  refine lv_iconst (v := 0) hx hb dX13_fitsIn_108 (by decide) ?_
                  refine lv_iload hx hb dX13_fitsIn_109 (lv_at hl 6 rfl) ?_
                  refine lv_iadd hx hb dX13_fitsIn_111 ?_
                  refine lv_topi (fun z16982 ez16982 => ?_)
                  obtain rfl : z16965 = z16982 := (ar_zadd ez16982).symm
                  refine t_ild X hT m1 g1 rfl (by omega) dX13_fitsIn_112 (fun z16983 vz16983 rz16983 => ?_)
                  have rz16983 := row_ml (by omega) rz16983
                  refine lv_icmp_le (tgt := 119) hx hb dX13_fitsIn_113 (by decide) (fun c16984 => ?_) (fun c16984 => ?_)
                  · have w16985 := cv_le (rfl : z16981.toInt = z16981.toInt) (rfl : z16983.toInt = z16983.toInt) c16984
                    refine lv_aload_n hx hb dX13_fitsIn_119 rfl (lv_at hl 0 rfl) ?_
                    refine t_getN (C := RX12) (T := TX12) (N := 31) X hT m0 g0 rfl rfl 14 (by decide) (List.mem_of_getElem? (i := 18) rfl) inlX12 rfl dX13_fitsIn_120 (fun v16986 hv16986 ov16986 => ?_)
                    obtain ⟨z16987, rfl, rz16987⟩ := okV_i ov16986
                    refine lv_if_eq (tgt := 154) hx hb dX13_fitsIn_123 (by decide) (fun c16988 => ?_) (fun c16988 => ?_)
                    · have w16989 := cv_eq (rfl : z16987.toInt = z16987.toInt) (by decide : (0 : Int32).toInt = 0) c16988
                      refine lv_iconst (v := 0) hx hb dX13_fitsIn_154 (by decide) ?_
                      have k16990 : (0 : Int32).toInt = 0 := by decide
                      exact t_zret hQ X hT (by decide) (⟨rfl, (by decide)⟩) (Nat.le_of_ble_eq_true rfl) (Nat.le_of_ble_eq_true rfl) dX13_fitsIn_155
                    · have w16991 := cv_ne (rfl : z16987.toInt = z16987.toInt) (by decide : (0 : Int32).toInt = 0) c16988
                      refine lv_aload_n hx hb dX13_fitsIn_126 rfl (lv_at hl 1 rfl) ?_
                      refine lv_iconst (v := 0) hx hb dX13_fitsIn_127 (by decide) ?_
                      refine lv_iload hx hb dX13_fitsIn_128 (lv_at hl 6 rfl) ?_
                      refine lv_iadd hx hb dX13_fitsIn_130 ?_
                      refine lv_topi (fun z16992 ez16992 => ?_)
                      obtain rfl : z16965 = z16992 := (ar_zadd ez16992).symm
                      refine t_ild X hT m1 g1 rfl (by omega) dX13_fitsIn_131 (fun z16993 vz16993 rz16993 => ?_)
                      obtain rfl : z16983 = z16993 := vz16983.symm.trans vz16993
                      refine lv_if_eq (tgt := 154) hx hb dX13_fitsIn_132 (by decide) (fun c16994 => ?_) (fun c16994 => ?_)
                      · have w16995 := cv_eq (rfl : z16983.toInt = z16983.toInt) (by decide : (0 : Int32).toInt = 0) c16994
                        refine lv_iconst (v := 0) hx hb dX13_fitsIn_154 (by decide) ?_
                        have k16996 : (0 : Int32).toInt = 0 := by decide
                        exact t_zret hQ X hT (by decide) (⟨rfl, (by decide)⟩) (Nat.le_of_ble_eq_true rfl) (Nat.le_of_ble_eq_true rfl) dX13_fitsIn_155
                      · have w16997 := cv_ne (rfl : z16983.toInt = z16983.toInt) (by decide : (0 : Int32).toInt = 0) c16994
                        refine lv_aload_n hx hb dX13_fitsIn_135 rfl (lv_at hl 0 rfl) ?_
                        refine lv_iload hx hb dX13_fitsIn_136 (lv_at hl 6 rfl) ?_
                        refine lv_iload hx hb dX13_fitsIn_138 (lv_at hl 5 rfl) ?_
                        refine lv_iload hx hb dX13_fitsIn_140 (lv_at hl 4 rfl) ?_
                        refine t_cVi (n := 3) (C := RX12) (T := TX12) (N := 31) (As := [.int z16965, .int z16957, .int z16953]) (rest := []) X hT (km46_X12_far l G tag L F hT.2.2.2 p0 z16965 z16957 z16953 z16966 m0 g0 (by omega) (by omega) qz16966) m0 g0 rfl rfl qw_619 qw_620 qw_621 qw_476 qw_622 ⟨rfl, by decide +kernel, by decide +kernel, by decide +kernel⟩ ⟨Nat.le_of_ble_eq_true rfl, Nat.le_of_ble_eq_true rfl⟩ hl rfl rfl (Nat.le_of_ble_eq_true rfl) dX13_fitsIn_142 ⟨Nat.le_of_ble_eq_true rfl, Nat.le_of_ble_eq_true rfl⟩ (fun z16998 F9 H locs hT hz16998 => ?_)
                        obtain ⟨fz16998, hz16998⟩ := hz16998
                        rw [fz16998] at hT
                        refine lv_aload_n hx hb dX13_fitsIn_145 rfl (lv_at hl 1 rfl) ?_
                        refine lv_iconst (v := 0) hx hb dX13_fitsIn_146 (by decide) ?_
                        refine lv_iload hx hb dX13_fitsIn_147 (lv_at hl 6 rfl) ?_
                        refine lv_iadd hx hb dX13_fitsIn_149 ?_
                        refine lv_topi (fun z16999 ez16999 => ?_)
                        obtain rfl : z16965 = z16999 := (ar_zadd ez16999).symm
                        refine t_ild X hT m1 g1 rfl (by omega) dX13_fitsIn_150 (fun z17000 vz17000 rz17000 => ?_)
                        obtain rfl : z16983 = z17000 := vz16983.symm.trans vz17000
                        refine lv_icmp_ge (tgt := 156) hx hb dX13_fitsIn_151 (by decide) (fun c17001 => ?_) (fun c17001 => ?_)
                        · have w17002 := cv_le (rfl : z16983.toInt = z16983.toInt) (rfl : z16998.toInt = z16998.toInt) c17001
                          exact K156 z16966 z16967 z16974 _ _ _ (by omega) (by omega) (by omega) (by omega) hT qz16966 qz16967 hv16973 (lv_sub hl [0, 1, 2, 3, 4, 5, 6] rfl)
                        · have w17003 := cv_nle (rfl : z16983.toInt = z16983.toInt) (rfl : z16998.toInt = z16998.toInt) c17001
                          refine lv_iconst (v := 0) hx hb dX13_fitsIn_154 (by decide) ?_
                          have k17004 : (0 : Int32).toInt = 0 := by decide
                          exact t_zret hQ X hT (by decide) (⟨rfl, (by decide)⟩) (Nat.le_of_ble_eq_true rfl) (Nat.le_of_ble_eq_true rfl) dX13_fitsIn_155
                  · have w17005 := cv_nle (rfl : z16981.toInt = z16981.toInt) (rfl : z16983.toInt = z16983.toInt) c16984
                    refine lv_goto (tgt := 156) hx hb dX13_fitsIn_116 (by decide) ?_
                    exact K156 z16966 z16967 z16974 _ _ _ (by omega) (by omega) (by omega) (by omega) hT qz16966 qz16967 hv16973 (lv_sub hl [0, 1, 2, 3, 4, 5, 6] rfl)
          refine lv_iload hx hb dX13_fitsIn_38 (lv_at hl 5 rfl) ?_
          refine lv_aload_n hx hb dX13_fitsIn_40 rfl (lv_at hl 0 rfl) ?_
          refine lv_iload_n hx hb dX13_fitsIn_41 rfl (lv_at hl 2 rfl) ?_
          refine t_cVi (n := 1) (C := RX12) (T := TX12) (N := 31) (As := [.int p2]) (rest := [.int z16957]) X hT (km45_X12_x l G tag L F hT.2.2.2 p0 p2 z16958 m0 g0 (by omega) (by omega) qz16958) m0 g0 rfl rfl qw_648 qw_624 qw_625 qw_476 qw_626 ⟨rfl, by decide +kernel, by decide +kernel, by decide +kernel⟩ ⟨Nat.le_of_ble_eq_true rfl, Nat.le_of_ble_eq_true rfl⟩ hl rfl rfl (Nat.le_of_ble_eq_true rfl) dX13_fitsIn_42 ⟨Nat.le_of_ble_eq_true rfl, Nat.le_of_ble_eq_true rfl⟩ (fun z17006 F9 H locs hT hz17006 => ?_)
          obtain ⟨fz17006, hz17006⟩ := hz17006
          rw [fz17006] at hT
          refine lv_iload_n hx hb dX13_fitsIn_45 rfl (lv_at hl 3 rfl) ?_
          refine lv_iadd hx hb dX13_fitsIn_46 ?_
          refine lv_topi (fun z17007 ez17007 => ?_)
          have hz17007 : z17007.toInt = z17006.toInt + z16952.toInt := ar_add ez17007 (rfl : z17006.toInt = z17006.toInt) (rfl : z16952.toInt = z16952.toInt) (by omega) (by omega)
          have rz17007 : 1 ≤ z17007.toInt ∧ z17007.toInt ≤ 18 := by omega
          refine lv_icmp_gt (tgt := 168) hx hb dX13_fitsIn_47 (by decide) (fun c17008 => ?_) (fun c17008 => ?_)
          · have w17009 := cv_lt (rfl : z17007.toInt = z17007.toInt) (rfl : z16957.toInt = z16957.toInt) c17008
            obtain ⟨z17010, ez17010⟩ : ∃ y : Int32, y = z16953 + 1 := ⟨_, rfl⟩
            have hz17010 : z17010.toInt = z16953.toInt + 1 := ar_add ez17010 rfl (by decide : (1 : Int32).toInt = 1) (by omega) (by omega)
            refine lv_iinc (v := z17010) (lv' := [(4, .int z17010), (0, .ref p0), (1, .ref p1), (2, .int p2), (3, .int z16952), (5, .int z16957)]) hx hb dX13_fitsIn_168 hl (k := 4) rfl (by rw [ez17010]; rfl) (by decide) rfl (fun ls hl => ?_)
            refine lv_goto (tgt := 17) hx hb dX13_fitsIn_171 (by decide) ?_
            exact ih17 z16952 z17010 z16958 z16959 _ _ _ (by omega) (by omega) (by omega) (by omega) (by omega) hT qz16958 qz16959 (lv_sub hl [1, 2, 3, 4, 0] rfl)
          · have w17011 := cv_nlt (rfl : z17007.toInt = z17007.toInt) (rfl : z16957.toInt = z16957.toInt) c17008
            refine lv_aload_n hx hb dX13_fitsIn_50 rfl (lv_at hl 0 rfl) ?_
            refine lv_iload_n hx hb dX13_fitsIn_51 rfl (lv_at hl 2 rfl) ?_
            refine lv_iload hx hb dX13_fitsIn_52 (lv_at hl 5 rfl) ?_
            refine lv_iload hx hb dX13_fitsIn_54 (lv_at hl 4 rfl) ?_
            refine t_cVi (n := 3) (C := RX12) (T := TX12) (N := 31) (As := [.int p2, .int z16957, .int z16953]) (rest := []) X hT (km46_X12_far l G tag L F hT.2.2.2 p0 p2 z16957 z16953 z16958 m0 g0 (by omega) (by omega) qz16958) m0 g0 rfl rfl qw_619 qw_620 qw_621 qw_476 qw_622 ⟨rfl, by decide +kernel, by decide +kernel, by decide +kernel⟩ ⟨Nat.le_of_ble_eq_true rfl, Nat.le_of_ble_eq_true rfl⟩ hl rfl rfl (Nat.le_of_ble_eq_true rfl) dX13_fitsIn_56 ⟨Nat.le_of_ble_eq_true rfl, Nat.le_of_ble_eq_true rfl⟩ (fun z17012 F9 H locs hT hz17012 => ?_)
            obtain ⟨fz17012, hz17012⟩ := hz17012
            rw [fz17012] at hT
            refine lv_iload_n hx hb dX13_fitsIn_59 rfl (lv_at hl 3 rfl) ?_
            refine lv_icmp_eq (tgt := 66) hx hb dX13_fitsIn_60 (by decide) (fun c17013 => ?_) (fun c17013 => ?_)
            · have w17014 := cv_eq (rfl : z17012.toInt = z17012.toInt) (rfl : z16952.toInt = z16952.toInt) c17013
              refine lv_aload_n hx hb dX13_fitsIn_66 rfl (lv_at hl 0 rfl) ?_
              refine lv_iload hx hb dX13_fitsIn_67 (lv_at hl 5 rfl) ?_
              refine lv_iload hx hb dX13_fitsIn_69 (lv_at hl 4 rfl) ?_
              refine t_cVi (n := 2) (C := RX12) (T := TX12) (N := 31) (As := [.int z16957, .int z16953]) (rest := []) X hT (km47_X12_isLand l G tag L F hT.2.2.2 p0 z16957 z16953 m0 g0) m0 g0 rfl rfl qw_649 qw_650 qw_651 qw_476 qw_652 ⟨rfl, by decide +kernel, by decide +kernel, by decide +kernel⟩ ⟨Nat.le_of_ble_eq_true rfl, Nat.le_of_ble_eq_true rfl⟩ hl rfl rfl (Nat.le_of_ble_eq_true rfl) dX13_fitsIn_71 ⟨Nat.le_of_ble_eq_true rfl, Nat.le_of_ble_eq_true rfl⟩ (fun z17015 F9 H locs hT hz17015 => ?_)
              obtain ⟨fz17015, hz17015⟩ := hz17015
              rw [fz17015] at hT
              refine lv_if_ne (tgt := 79) hx hb dX13_fitsIn_74 (by decide) (fun c17016 => ?_) (fun c17016 => ?_)
              · have w17017 := cv_ne (rfl : z17015.toInt = z17015.toInt) (by decide : (0 : Int32).toInt = 0) c17016
                refine lv_iconst (v := 0) hx hb dX13_fitsIn_79 (by decide) ?_
                refine lv_istore (lv' := [(6, .int 0), (0, .ref p0), (1, .ref p1), (2, .int p2), (3, .int z16952), (4, .int z16953), (5, .int z16957)]) hx hb dX13_fitsIn_80 hl (by decide) rfl (fun ls hl => ?_)
                have k17018 : (0 : Int32).toInt = 0 := by decide
                exact K82 5 0 z16958 z16959 _ _ _ (by omega) (by decide) (by omega) (by omega) (by omega) hT qz16958 qz16959 (lv_sub hl [1, 2, 3, 4, 5, 6, 0] rfl)
              · have w17019 := cv_eq (rfl : z17015.toInt = z17015.toInt) (by decide : (0 : Int32).toInt = 0) c17016
                refine lv_iconst (v := 0) hx hb dX13_fitsIn_77 (by decide) ?_
                have k17020 : (0 : Int32).toInt = 0 := by decide
                exact t_zret hQ X hT (by decide) (⟨rfl, (by decide)⟩) (Nat.le_of_ble_eq_true rfl) (Nat.le_of_ble_eq_true rfl) dX13_fitsIn_78
            · have w17021 := cv_ne (rfl : z17012.toInt = z17012.toInt) (rfl : z16952.toInt = z16952.toInt) c17013
              refine lv_goto (tgt := 162) hx hb dX13_fitsIn_63 (by decide) ?_
              exact K162 z16958 z16959 _ _ _ (by omega) (by omega) (by omega) hT qz16958 qz16959 (lv_sub hl [0, 1, 2, 3, 4, 5] rfl)
      refine lv_iload hx hb dX13_fitsIn_17 (lv_at hl 4 rfl) ?_
      refine lv_aload_n hx hb dX13_fitsIn_19 rfl (lv_at hl 0 rfl) ?_
      refine lv_iload_n hx hb dX13_fitsIn_20 rfl (lv_at hl 2 rfl) ?_
      refine t_cVi (n := 1) (C := RX12) (T := TX12) (N := 31) (As := [.int p2]) (rest := [.int z16953]) X hT (km44_X12_y l G tag L F hT.2.2.2 p0 p2 z16954 m0 g0 (by omega) (by omega) qz16954) m0 g0 rfl rfl qw_647 qw_629 qw_630 qw_476 qw_631 ⟨rfl, by decide +kernel, by decide +kernel, by decide +kernel⟩ ⟨Nat.le_of_ble_eq_true rfl, Nat.le_of_ble_eq_true rfl⟩ hl rfl rfl (Nat.le_of_ble_eq_true rfl) dX13_fitsIn_21 ⟨Nat.le_of_ble_eq_true rfl, Nat.le_of_ble_eq_true rfl⟩ (fun z17022 F9 H locs hT hz17022 => ?_)
      obtain ⟨fz17022, hz17022⟩ := hz17022
      rw [fz17022] at hT
      refine lv_iload_n hx hb dX13_fitsIn_24 rfl (lv_at hl 3 rfl) ?_
      refine lv_iadd hx hb dX13_fitsIn_25 ?_
      refine lv_topi (fun z17023 ez17023 => ?_)
      have hz17023 : z17023.toInt = z17022.toInt + z16952.toInt := ar_add ez17023 (rfl : z17022.toInt = z17022.toInt) (rfl : z16952.toInt = z16952.toInt) (by omega) (by omega)
      have rz17023 : 1 ≤ z17023.toInt ∧ z17023.toInt ≤ 150 := by omega
      refine lv_icmp_gt (tgt := 174) hx hb dX13_fitsIn_26 (by decide) (fun c17024 => ?_) (fun c17024 => ?_)
      · have w17025 := cv_lt (rfl : z17023.toInt = z17023.toInt) (rfl : z16953.toInt = z16953.toInt) c17024
        refine lv_iconst (v := 1) hx hb dX13_fitsIn_174 (by decide) ?_
        have k17026 : (1 : Int32).toInt = 1 := by decide
        exact t_zret hQ X hT (by decide) (⟨rfl, (by decide)⟩) (Nat.le_of_ble_eq_true rfl) (Nat.le_of_ble_eq_true rfl) dX13_fitsIn_175
      · have w17027 := cv_nlt (rfl : z17023.toInt = z17023.toInt) (rfl : z16953.toInt = z16953.toInt) c17024
        refine lv_aload_n hx hb dX13_fitsIn_29 rfl (lv_at hl 0 rfl) ?_
        refine lv_iload_n hx hb dX13_fitsIn_30 rfl (lv_at hl 2 rfl) ?_
        refine t_cVi (n := 1) (C := RX12) (T := TX12) (N := 31) (As := [.int p2]) (rest := []) X hT (km45_X12_x l G tag L F hT.2.2.2 p0 p2 z16954 m0 g0 (by omega) (by omega) qz16954) m0 g0 rfl rfl qw_648 qw_624 qw_625 qw_476 qw_626 ⟨rfl, by decide +kernel, by decide +kernel, by decide +kernel⟩ ⟨Nat.le_of_ble_eq_true rfl, Nat.le_of_ble_eq_true rfl⟩ hl rfl rfl (Nat.le_of_ble_eq_true rfl) dX13_fitsIn_31 ⟨Nat.le_of_ble_eq_true rfl, Nat.le_of_ble_eq_true rfl⟩ (fun z17028 F9 H locs hT hz17028 => ?_)
        obtain ⟨fz17028, hz17028⟩ := hz17028
        rw [fz17028] at hT
        refine lv_iload_n hx hb dX13_fitsIn_34 rfl (lv_at hl 3 rfl) ?_
        refine lv_isub hx hb dX13_fitsIn_35 ?_
        refine lv_topi (fun z17029 ez17029 => ?_)
        have hz17029 : z17029.toInt = z17028.toInt - z16952.toInt := ar_sub ez17029 (rfl : z17028.toInt = z17028.toInt) (rfl : z16952.toInt = z16952.toInt) (by omega) (by omega)
        have rz17029 : (-7) ≤ z17029.toInt ∧ z17029.toInt ≤ 10 := by omega
        refine lv_istore (lv' := [(5, .int z17029), (0, .ref p0), (1, .ref p1), (2, .int p2), (3, .int z16952), (4, .int z16953)]) hx hb dX13_fitsIn_36 hl (by decide) rfl (fun ls hl => ?_)
        exact K38 28 z17029 z16954 z16955 _ _ _ (by omega) (by omega) (by omega) (by omega) (by omega) hT qz16954 qz16955 (lv_sub hl [1, 2, 3, 4, 5, 0] rfl)
  refine lv_aload_n hx hb dX13_fitsIn_0 rfl (lv_at hl 1 rfl) ?_
  refine lv_iconst (v := 0) hx hb dX13_fitsIn_1 (by decide) ?_
  refine lv_iload_n hx hb dX13_fitsIn_2 rfl (lv_at hl 2 rfl) ?_
  refine lv_iadd hx hb dX13_fitsIn_3 ?_
  refine lv_topi (fun z17030 ez17030 => ?_)
  obtain rfl : p2 = z17030 := (ar_zadd ez17030).symm
  refine t_ild X hT m1 g1 rfl (by omega) dX13_fitsIn_4 (fun z17031 vz17031 rz17031 => ?_)
  have rz17031 := row_ml (by omega) rz17031
  refine lv_iconst (v := 1) hx hb dX13_fitsIn_5 (by decide) ?_
  refine lv_iadd hx hb dX13_fitsIn_6 ?_
  refine lv_topi (fun z17032 ez17032 => ?_)
  have hz17032 : z17032.toInt = z17031.toInt + 1 := ar_add ez17032 (rfl : z17031.toInt = z17031.toInt) (by decide : (1 : Int32).toInt = 1) (by omega) (by omega)
  have rz17032 : 1 ≤ z17032.toInt ∧ z17032.toInt ≤ 7 := by omega
  refine lv_istore_n (lv' := [(3, .int z17032), (0, .ref p0), (1, .ref p1), (2, .int p2)]) hx hb dX13_fitsIn_7 rfl hl (by decide) rfl (fun ls hl => ?_)
  refine lv_aload_n hx hb dX13_fitsIn_8 rfl (lv_at hl 1 rfl) ?_
  refine lv_iload_n hx hb dX13_fitsIn_9 rfl (lv_at hl 3 rfl) ?_
  refine t_cVi (n := 1) (C := RX12) (T := TX12) (N := 31) (As := [.int p2]) (rest := []) X hT (km44_X12_y l G tag L F hT.2.2.2 p0 p2 x0 m0 g0 (by omega) (by omega) pf0) m0 g0 rfl rfl qw_647 qw_629 qw_630 qw_476 qw_631 ⟨rfl, by decide +kernel, by decide +kernel, by decide +kernel⟩ ⟨Nat.le_of_ble_eq_true rfl, Nat.le_of_ble_eq_true rfl⟩ hl rfl rfl (Nat.le_of_ble_eq_true rfl) dX13_fitsIn_10 ⟨Nat.le_of_ble_eq_true rfl, Nat.le_of_ble_eq_true rfl⟩ (fun z17033 F9 H locs hT hz17033 => ?_)
  obtain ⟨fz17033, hz17033⟩ := hz17033
  rw [fz17033] at hT
  refine lv_iload_n hx hb dX13_fitsIn_13 rfl (lv_at hl 0 rfl) ?_
  refine lv_isub hx hb dX13_fitsIn_14 ?_
  refine lv_topi (fun z17034 ez17034 => ?_)
  have hz17034 : z17034.toInt = z17033.toInt - z17032.toInt := ar_sub ez17034 (rfl : z17033.toInt = z17033.toInt) (rfl : z17032.toInt = z17032.toInt) (by omega) (by omega)
  have rz17034 : (-7) ≤ z17034.toInt ∧ z17034.toInt ≤ 142 := by omega
  refine lv_istore (lv' := [(4, .int z17034), (3, .int z17032), (0, .ref p0), (1, .ref p1), (2, .int p2)]) hx hb dX13_fitsIn_15 hl (by decide) rfl (fun ls hl => ?_)
  exact K17 201 z17032 z17034 x0 z17031 _ _ _ (by omega) (by omega) (by omega) (by omega) (by omega) hT pf0 vz17031 (lv_sub hl [2, 3, 4, 1, 0] rfl)
