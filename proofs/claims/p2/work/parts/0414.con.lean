set_option maxHeartbeats 4000000 in
set_option maxRecDepth 100000 in
theorem km73_X13_readWhole (l : Launch) (G : KG) (tag : Nat → Nat) (L : List Nat) (Fo : Nat → va_E) (ho : okT G ttC tag L Fo) (p0 : Nat) (p1 : Int32) (p2 : Int32) (x0 : Nat) (x1 : Nat) (x2 : Nat) (x3 : Int32) (x4 : Int32) (x5 : Int32) (m0 : p0 ∈ L) (g0 : tag p0 = 46) (h1 : 0 ≤ p1.toInt ∧ p1.toInt ≤ 0) (h2 : 100 ≤ p2.toInt ∧ p2.toInt ≤ 100) (mx0 : x0 ∈ L) (gx0 : tag x0 = 44) (pf0 : fld Fo p0 4 = .ref x0) (mx1 : x1 ∈ L) (gx1 : tag x1 = 35) (pf1 : fld Fo x0 28 = .ref x1) (mx2 : x2 ∈ L) (gx2 : tag x2 = 36) (pf2 : fld Fo x0 29 = .ref x2) (hx3 : 0 ≤ x3.toInt ∧ x3.toInt ≤ 5) (pf3 : fld Fo p0 9 = .int x3) (hx4 : 0 ≤ x4.toInt ∧ x4.toInt ≤ 1000) (pf4 : fld Fo p0 8 = .int x4) (hx5 : 0 ≤ x5.toInt ∧ x5.toInt ≤ 7) (pf5 : fld Fo p0 13 = .int x5) (hkf : KF x3 x5) : TMi l yX13_readWhole cX13_readWhole 4 (some .int) { frames := 2, cells := 0, slots := 0, locals := 44 } G ttC tag L Fo [.ref p0, .int p1, .int p2] (fun r F1 => (0 ≤ r.toInt ∧ r.toInt ≤ 100) ∧ ((∀ b j : Nat, (tag b ≠ 46 ∨ j ≠ 8) → (tag b ≠ 46 ∨ j ≠ 9) → (tag b ≠ 46 ∨ j ≠ 10) → (tag b ≠ 46 ∨ j ≠ 11) → (tag b ≠ 46 ∨ j ≠ 12) → (tag b ≠ 46 ∨ j ≠ 13) → (tag b ≠ 46 ∨ j ≠ 14) → (tag b ≠ 46 ∨ j ≠ 15) → fld F1 b j = fld Fo b j) ∧ (∀ b j : Nat, elm F1 b j = elm Fo b j)) ∧ (∃ so sp fa : Int32, fld F1 p0 9 = .int so ∧ fld F1 p0 8 = .int sp ∧ fld F1 p0 13 = .int fa ∧ (0 ≤ so.toInt ∧ so.toInt ≤ 5) ∧ (0 ≤ sp.toInt ∧ sp.toInt ≤ 1000) ∧ (0 ≤ fa.toInt ∧ fa.toInt ≤ 7) ∧ STK x3 so ∧ SPT x3 x4 so sp ∧ KF so fa)) := by
  refine t_bodyi (y := yX13_readWhole) (cd := cX13_readWhole) (mL := 4) (rt := (some .int)) (rm := { frames := 2, cells := 0, slots := 0, locals := 44 }) (av := [.ref p0, .int p1, .int p2]) (by decide) (Nat.le_of_ble_eq_true rfl) ho ?_
  intro p e s m args below meth c ls A Q hQ X hT hl
  have hx := X.1.1
  have hb := X.1.2.1
  have hl : lv_has ls 4 [(0, .ref p0), (1, .int p1), (2, .int p2)] := hl
  obtain ⟨F, hFo⟩ : ∃ F : Nat → va_E, F = Fo := ⟨_, rfl⟩
  rw [← hFo] at hT pf0 pf1 pf2 pf3 pf4 pf5
  have hfr : (∀ b j : Nat, (tag b ≠ 46 ∨ j ≠ 8) → (tag b ≠ 46 ∨ j ≠ 9) → (tag b ≠ 46 ∨ j ≠ 10) → (tag b ≠ 46 ∨ j ≠ 11) → (tag b ≠ 46 ∨ j ≠ 12) → (tag b ≠ 46 ∨ j ≠ 13) → (tag b ≠ 46 ∨ j ≠ 14) → (tag b ≠ 46 ∨ j ≠ 15) → fld F b j = fld Fo b j) ∧ (∀ b j : Nat, elm F b j = elm Fo b j) := by
    rw [hFo]
    exact ⟨by intros; rfl, by intros; rfl⟩
  have hstk : STK x3 x3 := STK.rf
  have hspt : SPT x3 x4 x3 x4 := SPT.rf
  refine lv_aload_n hx hb dX13_readWhole_0 rfl (lv_at hl 0 rfl) ?_
  refine lv_iload_n hx hb dX13_readWhole_1 rfl (lv_at hl 1 rfl) ?_
  refine lv_iload_n hx hb dX13_readWhole_2 rfl (lv_at hl 2 rfl) ?_
  refine t_cVi (n := 2) (C := RX13) (T := TX13) (N := 37) (As := [.int p1, .int p2]) (rest := []) X hT (km72_X13_bounded l G tag L F hT.2.2.2 p0 p1 p2 x0 x1 x2 x3 x4 x5 m0 g0 (by omega) (by omega) mx0 gx0 pf0 mx1 gx1 pf1 mx2 gx2 pf2 (by omega) pf3 (by omega) pf4 (by omega) pf5 hkf) m0 g0 rfl rfl qw_564 qw_565 qw_566 qw_5 qw_567 ⟨rfl, by decide +kernel, by decide +kernel, by decide +kernel⟩ ⟨Nat.le_of_ble_eq_true rfl, Nat.le_of_ble_eq_true rfl⟩ hl rfl rfl (Nat.le_of_ble_eq_true rfl) dX13_readWhole_3 ⟨Nat.le_of_ble_eq_true rfl, Nat.le_of_ble_eq_true rfl⟩ (fun z25335 F H locs hT hz25335 => ?_)
  obtain ⟨hz25335, yz25335, ⟨soz25335, spz25335, faz25335, qsoz25335, qspz25335, qfaz25335, rsoz25335, rspz25335, rfaz25335, stz25335, ptz25335, hkf⟩⟩ := hz25335
  have pf0 := (yz25335.1 _ 4 (Or.inr (by decide)) (Or.inr (by decide)) (Or.inr (by decide))).trans pf0
  have pf1 := (yz25335.1 _ 28 (Or.inr (by decide)) (Or.inr (by decide)) (Or.inr (by decide))).trans pf1
  have pf2 := (yz25335.1 _ 29 (Or.inr (by decide)) (Or.inr (by decide)) (Or.inr (by decide))).trans pf2
  have pf4 := (yz25335.1 _ 8 (Or.inr (by decide)) (Or.inr (by decide)) (Or.inr (by decide))).trans pf4
  have hfr : (∀ b j : Nat, (tag b ≠ 46 ∨ j ≠ 8) → (tag b ≠ 46 ∨ j ≠ 9) → (tag b ≠ 46 ∨ j ≠ 10) → (tag b ≠ 46 ∨ j ≠ 11) → (tag b ≠ 46 ∨ j ≠ 12) → (tag b ≠ 46 ∨ j ≠ 13) → (tag b ≠ 46 ∨ j ≠ 14) → (tag b ≠ 46 ∨ j ≠ 15) → fld F b j = fld Fo b j) ∧ (∀ b j : Nat, elm F b j = elm Fo b j) := ⟨fun b j n46_8 n46_9 n46_10 n46_11 n46_12 n46_13 n46_14 n46_15 => (yz25335.1 b j n46_9 n46_13 n46_14).trans (hfr.1 b j n46_8 n46_9 n46_10 n46_11 n46_12 n46_13 n46_14 n46_15), fun b j  => (yz25335.2 b j ).trans (hfr.2 b j )⟩
  have hstk := STK.tr hstk stz25335
  have hspt := SPT.tr hspt ptz25335
  refine lv_istore_n (lv' := [(3, .int z25335), (0, .ref p0), (1, .int p1), (2, .int p2)]) hx hb dX13_readWhole_6 rfl hl (by decide) rfl (fun ls hl => ?_)
  refine lv_aload_n hx hb dX13_readWhole_7 rfl (lv_at hl 1 rfl) ?_
  refine t_cVv (n := 0) (C := RX13) (T := TX13) (N := 37) (As := []) (rest := []) X hT (km14_X13_goesOn l G tag L F hT.2.2.2 p0 x0 x1 x2 soz25335 spz25335 faz25335 m0 g0 mx0 gx0 pf0 mx1 gx1 pf1 mx2 gx2 pf2 (by omega) qsoz25335 (by omega) qspz25335 (by omega) qfaz25335 hkf) m0 g0 rfl rfl qw_508 qw_509 qw_510 qw_5 qw_511 ⟨rfl, by decide +kernel, by decide +kernel, by decide +kernel⟩ ⟨Nat.le_of_ble_eq_true rfl, Nat.le_of_ble_eq_true rfl⟩ hl rfl rfl (Nat.le_of_ble_eq_true rfl) dX13_readWhole_8 ⟨Nat.le_of_ble_eq_true rfl, Nat.le_of_ble_eq_true rfl⟩ (fun F H locs hT hz25336 => ?_)
  obtain ⟨yz25336, ⟨soz25336, spz25336, faz25336, qsoz25336, qspz25336, qfaz25336, rsoz25336, rspz25336, rfaz25336, stz25336, ptz25336, hkf⟩⟩ := hz25336
  have pf0 := (yz25336.1 _ 4 (Or.inr (by decide)) (Or.inr (by decide)) (Or.inr (by decide)) (Or.inr (by decide)) (Or.inr (by decide)) (Or.inr (by decide))).trans pf0
  have pf1 := (yz25336.1 _ 28 (Or.inr (by decide)) (Or.inr (by decide)) (Or.inr (by decide)) (Or.inr (by decide)) (Or.inr (by decide)) (Or.inr (by decide))).trans pf1
  have pf2 := (yz25336.1 _ 29 (Or.inr (by decide)) (Or.inr (by decide)) (Or.inr (by decide)) (Or.inr (by decide)) (Or.inr (by decide)) (Or.inr (by decide))).trans pf2
  have qfaz25335 := (yz25336.1 _ 13 (Or.inr (by decide)) (Or.inr (by decide)) (Or.inr (by decide)) (Or.inr (by decide)) (Or.inr (by decide)) (Or.inr (by decide))).trans qfaz25335
  have hfr : (∀ b j : Nat, (tag b ≠ 46 ∨ j ≠ 8) → (tag b ≠ 46 ∨ j ≠ 9) → (tag b ≠ 46 ∨ j ≠ 10) → (tag b ≠ 46 ∨ j ≠ 11) → (tag b ≠ 46 ∨ j ≠ 12) → (tag b ≠ 46 ∨ j ≠ 13) → (tag b ≠ 46 ∨ j ≠ 14) → (tag b ≠ 46 ∨ j ≠ 15) → fld F b j = fld Fo b j) ∧ (∀ b j : Nat, elm F b j = elm Fo b j) := ⟨fun b j n46_8 n46_9 n46_10 n46_11 n46_12 n46_13 n46_14 n46_15 => (yz25336.1 b j n46_8 n46_9 n46_10 n46_11 n46_12 n46_15).trans (hfr.1 b j n46_8 n46_9 n46_10 n46_11 n46_12 n46_13 n46_14 n46_15), fun b j  => (yz25336.2 b j ).trans (hfr.2 b j )⟩
  have hstk := STK.tr hstk stz25336
  have hspt := SPT.tr hspt ptz25336
  refine lv_iload_n hx hb dX13_readWhole_11 rfl (lv_at hl 0 rfl) ?_
  exact t_iret hQ X hT (⟨(by omega), hfr, ⟨soz25336, spz25336, faz25336, qsoz25336, qspz25336, qfaz25336, (by omega), (by omega), (by omega), hstk, hspt, hkf⟩⟩) (Nat.le_of_ble_eq_true rfl) (Nat.le_of_ble_eq_true rfl) dX13_readWhole_12
set_option maxHeartbeats 4000000 in
set_option maxRecDepth 100000 in
theorem km74_X13_readPart (l : Launch) (G : KG) (tag : Nat → Nat) (L : List Nat) (Fo : Nat → va_E) (ho : okT G ttC tag L Fo) (p0 : Nat) (p1 : Nat) (p2 : Int32) (p3 : Int32) (x0 : Nat) (x1 : Nat) (x2 : Nat) (x3 : Int32) (x4 : Int32) (x5 : Int32) (m0 : p0 ∈ L) (g0 : tag p0 = 46) (h1 : p1 < 77) (h2 : 0 ≤ p2.toInt ∧ p2.toInt ≤ 0) (h3 : 100 ≤ p3.toInt ∧ p3.toInt ≤ 100) (mx0 : x0 ∈ L) (gx0 : tag x0 = 44) (pf0 : fld Fo p0 4 = .ref x0) (mx1 : x1 ∈ L) (gx1 : tag x1 = 35) (pf1 : fld Fo x0 28 = .ref x1) (mx2 : x2 ∈ L) (gx2 : tag x2 = 36) (pf2 : fld Fo x0 29 = .ref x2) (hx3 : 0 ≤ x3.toInt ∧ x3.toInt ≤ 5) (pf3 : fld Fo p0 9 = .int x3) (hx4 : 0 ≤ x4.toInt ∧ x4.toInt ≤ 1000) (pf4 : fld Fo p0 8 = .int x4) (hx5 : 0 ≤ x5.toInt ∧ x5.toInt ≤ 7) (pf5 : fld Fo p0 13 = .int x5) (hkf : KF x3 x5) : TMi l yX13_readPart cX13_readPart 4 (some .int) { frames := 7, cells := 0, slots := 0, locals := 150 } G ttC tag L Fo [.ref p0, .ref (G.2 (100 + p1)), .int p2, .int p3] (fun r F1 => (0 ≤ r.toInt ∧ r.toInt ≤ 100) ∧ ((∀ b j : Nat, (tag b ≠ 46 ∨ j ≠ 8) → (tag b ≠ 46 ∨ j ≠ 9) → (tag b ≠ 46 ∨ j ≠ 10) → (tag b ≠ 46 ∨ j ≠ 11) → (tag b ≠ 46 ∨ j ≠ 12) → (tag b ≠ 46 ∨ j ≠ 13) → (tag b ≠ 46 ∨ j ≠ 14) → (tag b ≠ 46 ∨ j ≠ 15) → fld F1 b j = fld Fo b j) ∧ (∀ b j : Nat, elm F1 b j = elm Fo b j)) ∧ (∃ so sp fa : Int32, fld F1 p0 9 = .int so ∧ fld F1 p0 8 = .int sp ∧ fld F1 p0 13 = .int fa ∧ (0 ≤ so.toInt ∧ so.toInt ≤ 5) ∧ (0 ≤ sp.toInt ∧ sp.toInt ≤ 1000) ∧ (0 ≤ fa.toInt ∧ fa.toInt ≤ 7) ∧ STK x3 so ∧ SPT x3 x4 so sp ∧ KF so fa)) := by
  refine t_bodyi (y := yX13_readPart) (cd := cX13_readPart) (mL := 4) (rt := (some .int)) (rm := { frames := 7, cells := 0, slots := 0, locals := 150 }) (av := [.ref p0, .ref (G.2 (100 + p1)), .int p2, .int p3]) (by decide) (Nat.le_of_ble_eq_true rfl) ho ?_
  intro p e s m args below meth c ls A Q hQ X hT hl
  have hx := X.1.1
  have hb := X.1.2.1
  have hl : lv_has ls 4 [(0, .ref p0), (1, .ref (G.2 (100 + p1))), (2, .int p2), (3, .int p3)] := hl
  obtain ⟨F, hFo⟩ : ∃ F : Nat → va_E, F = Fo := ⟨_, rfl⟩
  rw [← hFo] at hT pf0 pf1 pf2 pf3 pf4 pf5
  have hfr : (∀ b j : Nat, (tag b ≠ 46 ∨ j ≠ 8) → (tag b ≠ 46 ∨ j ≠ 9) → (tag b ≠ 46 ∨ j ≠ 10) → (tag b ≠ 46 ∨ j ≠ 11) → (tag b ≠ 46 ∨ j ≠ 12) → (tag b ≠ 46 ∨ j ≠ 13) → (tag b ≠ 46 ∨ j ≠ 14) → (tag b ≠ 46 ∨ j ≠ 15) → fld F b j = fld Fo b j) ∧ (∀ b j : Nat, elm F b j = elm Fo b j) := by
    rw [hFo]
    exact ⟨by intros; rfl, by intros; rfl⟩
  have hstk : STK x3 x3 := STK.rf
  have hspt : SPT x3 x4 x3 x4 := SPT.rf
  refine lv_aload_n hx hb dX13_readPart_0 rfl (lv_at hl 0 rfl) ?_
  refine lv_aload_n hx hb dX13_readPart_1 rfl (lv_at hl 1 rfl) ?_
  refine t_cVv (n := 1) (C := RX13) (T := TX13) (N := 37) (As := [.ref (G.2 (100 + p1))]) (rest := []) X hT (km40_X13_needs l G tag L F hT.2.2.2 p0 p1 x0 x1 x2 x3 x4 x5 m0 g0 h1 mx0 gx0 pf0 mx1 gx1 pf1 mx2 gx2 pf2 (by omega) pf3 (by omega) pf4 (by omega) pf5 hkf) m0 g0 rfl rfl qw_556 qw_557 qw_558 qw_5 qw_559 ⟨rfl, by decide +kernel, by decide +kernel, by decide +kernel⟩ ⟨Nat.le_of_ble_eq_true rfl, Nat.le_of_ble_eq_true rfl⟩ hl rfl rfl (Nat.le_of_ble_eq_true rfl) dX13_readPart_2 ⟨Nat.le_of_ble_eq_true rfl, Nat.le_of_ble_eq_true rfl⟩ (fun F H locs hT hz25358 => ?_)
  obtain ⟨yz25358, ⟨soz25358, spz25358, faz25358, qsoz25358, qspz25358, qfaz25358, rsoz25358, rspz25358, rfaz25358, stz25358, ptz25358, hkf⟩⟩ := hz25358
  have pf0 := (yz25358.1 _ 4 (Or.inr (by decide)) (Or.inr (by decide)) (Or.inr (by decide)) (Or.inr (by decide)) (Or.inr (by decide)) (Or.inr (by decide)) (Or.inr (by decide)) (Or.inr (by decide))).trans pf0
  have pf1 := (yz25358.1 _ 28 (Or.inr (by decide)) (Or.inr (by decide)) (Or.inr (by decide)) (Or.inr (by decide)) (Or.inr (by decide)) (Or.inr (by decide)) (Or.inr (by decide)) (Or.inr (by decide))).trans pf1
  have pf2 := (yz25358.1 _ 29 (Or.inr (by decide)) (Or.inr (by decide)) (Or.inr (by decide)) (Or.inr (by decide)) (Or.inr (by decide)) (Or.inr (by decide)) (Or.inr (by decide)) (Or.inr (by decide))).trans pf2
  have hfr : (∀ b j : Nat, (tag b ≠ 46 ∨ j ≠ 8) → (tag b ≠ 46 ∨ j ≠ 9) → (tag b ≠ 46 ∨ j ≠ 10) → (tag b ≠ 46 ∨ j ≠ 11) → (tag b ≠ 46 ∨ j ≠ 12) → (tag b ≠ 46 ∨ j ≠ 13) → (tag b ≠ 46 ∨ j ≠ 14) → (tag b ≠ 46 ∨ j ≠ 15) → fld F b j = fld Fo b j) ∧ (∀ b j : Nat, elm F b j = elm Fo b j) := ⟨fun b j n46_8 n46_9 n46_10 n46_11 n46_12 n46_13 n46_14 n46_15 => (yz25358.1 b j n46_8 n46_9 n46_10 n46_11 n46_12 n46_13 n46_14 n46_15).trans (hfr.1 b j n46_8 n46_9 n46_10 n46_11 n46_12 n46_13 n46_14 n46_15), fun b j  => (yz25358.2 b j ).trans (hfr.2 b j )⟩
  have hstk := STK.tr hstk stz25358
  have hspt := SPT.tr hspt ptz25358
  refine lv_aload_n hx hb dX13_readPart_5 rfl (lv_at hl 0 rfl) ?_
  refine lv_iload_n hx hb dX13_readPart_6 rfl (lv_at hl 2 rfl) ?_
  refine lv_iload_n hx hb dX13_readPart_7 rfl (lv_at hl 3 rfl) ?_
  refine t_cVi (n := 2) (C := RX13) (T := TX13) (N := 37) (As := [.int p2, .int p3]) (rest := []) X hT (km73_X13_readWhole l G tag L F hT.2.2.2 p0 p2 p3 x0 x1 x2 soz25358 spz25358 faz25358 m0 g0 (by omega) (by omega) mx0 gx0 pf0 mx1 gx1 pf1 mx2 gx2 pf2 (by omega) qsoz25358 (by omega) qspz25358 (by omega) qfaz25358 hkf) m0 g0 rfl rfl qw_560 qw_561 qw_562 qw_5 qw_563 ⟨rfl, by decide +kernel, by decide +kernel, by decide +kernel⟩ ⟨Nat.le_of_ble_eq_true rfl, Nat.le_of_ble_eq_true rfl⟩ hl rfl rfl (Nat.le_of_ble_eq_true rfl) dX13_readPart_8 ⟨Nat.le_of_ble_eq_true rfl, Nat.le_of_ble_eq_true rfl⟩ (fun z25359 F H locs hT hz25359 => ?_)
  obtain ⟨hz25359, yz25359, ⟨soz25359, spz25359, faz25359, qsoz25359, qspz25359, qfaz25359, rsoz25359, rspz25359, rfaz25359, stz25359, ptz25359, hkf⟩⟩ := hz25359
  have pf0 := (yz25359.1 _ 4 (Or.inr (by decide)) (Or.inr (by decide)) (Or.inr (by decide)) (Or.inr (by decide)) (Or.inr (by decide)) (Or.inr (by decide)) (Or.inr (by decide)) (Or.inr (by decide))).trans pf0
  have pf1 := (yz25359.1 _ 28 (Or.inr (by decide)) (Or.inr (by decide)) (Or.inr (by decide)) (Or.inr (by decide)) (Or.inr (by decide)) (Or.inr (by decide)) (Or.inr (by decide)) (Or.inr (by decide))).trans pf1
  have pf2 := (yz25359.1 _ 29 (Or.inr (by decide)) (Or.inr (by decide)) (Or.inr (by decide)) (Or.inr (by decide)) (Or.inr (by decide)) (Or.inr (by decide)) (Or.inr (by decide)) (Or.inr (by decide))).trans pf2
  have hfr : (∀ b j : Nat, (tag b ≠ 46 ∨ j ≠ 8) → (tag b ≠ 46 ∨ j ≠ 9) → (tag b ≠ 46 ∨ j ≠ 10) → (tag b ≠ 46 ∨ j ≠ 11) → (tag b ≠ 46 ∨ j ≠ 12) → (tag b ≠ 46 ∨ j ≠ 13) → (tag b ≠ 46 ∨ j ≠ 14) → (tag b ≠ 46 ∨ j ≠ 15) → fld F b j = fld Fo b j) ∧ (∀ b j : Nat, elm F b j = elm Fo b j) := ⟨fun b j n46_8 n46_9 n46_10 n46_11 n46_12 n46_13 n46_14 n46_15 => (yz25359.1 b j n46_8 n46_9 n46_10 n46_11 n46_12 n46_13 n46_14 n46_15).trans (hfr.1 b j n46_8 n46_9 n46_10 n46_11 n46_12 n46_13 n46_14 n46_15), fun b j  => (yz25359.2 b j ).trans (hfr.2 b j )⟩
  have hstk := STK.tr hstk stz25359
  have hspt := SPT.tr hspt ptz25359
  exact t_iret hQ X hT (⟨(by omega), hfr, ⟨soz25359, spz25359, faz25359, qsoz25359, qspz25359, qfaz25359, (by omega), (by omega), (by omega), hstk, hspt, hkf⟩⟩) (Nat.le_of_ble_eq_true rfl) (Nat.le_of_ble_eq_true rfl) dX13_readPart_11
set_option maxHeartbeats 4000000 in
set_option maxRecDepth 100000 in
theorem km75_X13_readYears (l : Launch) (G : KG) (tag : Nat → Nat) (L : List Nat) (Fo : Nat → va_E) (ho : okT G ttC tag L Fo) (p0 : Nat) (x0 : Nat) (x1 : Nat) (x2 : Nat) (x3 : Int32) (x4 : Int32) (x5 : Int32) (m0 : p0 ∈ L) (g0 : tag p0 = 46) (mx0 : x0 ∈ L) (gx0 : tag x0 = 44) (pf0 : fld Fo p0 4 = .ref x0) (mx1 : x1 ∈ L) (gx1 : tag x1 = 35) (pf1 : fld Fo x0 28 = .ref x1) (mx2 : x2 ∈ L) (gx2 : tag x2 = 36) (pf2 : fld Fo x0 29 = .ref x2) (hx3 : 0 ≤ x3.toInt ∧ x3.toInt ≤ 5) (pf3 : fld Fo p0 9 = .int x3) (hx4 : 0 ≤ x4.toInt ∧ x4.toInt ≤ 1000) (pf4 : fld Fo p0 8 = .int x4) (hx5 : 0 ≤ x5.toInt ∧ x5.toInt ≤ 7) (pf5 : fld Fo p0 13 = .int x5) (hkf : KF x3 x5) : TMv l yX13_readYears cX13_readYears 5 { frames := 8, cells := 0, slots := 0, locals := 173 } G ttC tag L Fo [.ref p0] (fun F1 => ((∀ b j : Nat, (tag b ≠ 44 ∨ j ≠ 2) → (tag b ≠ 44 ∨ j ≠ 3) → (tag b ≠ 44 ∨ j ≠ 4) → (tag b ≠ 44 ∨ j ≠ 5) → (tag b ≠ 46 ∨ j ≠ 8) → (tag b ≠ 46 ∨ j ≠ 9) → (tag b ≠ 46 ∨ j ≠ 10) → (tag b ≠ 46 ∨ j ≠ 11) → (tag b ≠ 46 ∨ j ≠ 12) → (tag b ≠ 46 ∨ j ≠ 13) → (tag b ≠ 46 ∨ j ≠ 14) → (tag b ≠ 46 ∨ j ≠ 15) → fld F1 b j = fld Fo b j) ∧ (∀ b j : Nat, elm F1 b j = elm Fo b j)) ∧ (∃ so sp fa : Int32, fld F1 p0 9 = .int so ∧ fld F1 p0 8 = .int sp ∧ fld F1 p0 13 = .int fa ∧ (0 ≤ so.toInt ∧ so.toInt ≤ 5) ∧ (0 ≤ sp.toInt ∧ sp.toInt ≤ 1000) ∧ (0 ≤ fa.toInt ∧ fa.toInt ≤ 7) ∧ STK x3 so ∧ SPT x3 x4 so sp ∧ KF so fa)) := by
  refine t_bodyv (y := yX13_readYears) (cd := cX13_readYears) (mL := 5) (rm := { frames := 8, cells := 0, slots := 0, locals := 173 }) (av := [.ref p0]) (by decide) (Nat.le_of_ble_eq_true rfl) ho ?_
  intro p e s m args below meth c ls A Q hQ X hT hl
  have hx := X.1.1
  have hb := X.1.2.1
  have hl : lv_has ls 5 [(0, .ref p0)] := hl
  obtain ⟨F, hFo⟩ : ∃ F : Nat → va_E, F = Fo := ⟨_, rfl⟩
  rw [← hFo] at hT pf0 pf1 pf2 pf3 pf4 pf5
  have hfr : (∀ b j : Nat, (tag b ≠ 44 ∨ j ≠ 2) → (tag b ≠ 44 ∨ j ≠ 3) → (tag b ≠ 44 ∨ j ≠ 4) → (tag b ≠ 44 ∨ j ≠ 5) → (tag b ≠ 46 ∨ j ≠ 8) → (tag b ≠ 46 ∨ j ≠ 9) → (tag b ≠ 46 ∨ j ≠ 10) → (tag b ≠ 46 ∨ j ≠ 11) → (tag b ≠ 46 ∨ j ≠ 12) → (tag b ≠ 46 ∨ j ≠ 13) → (tag b ≠ 46 ∨ j ≠ 14) → (tag b ≠ 46 ∨ j ≠ 15) → fld F b j = fld Fo b j) ∧ (∀ b j : Nat, elm F b j = elm Fo b j) := by
    rw [hFo]
    exact ⟨by intros; rfl, by intros; rfl⟩
  have hstk : STK x3 x3 := STK.rf
  have hspt : SPT x3 x4 x3 x4 := SPT.rf
  have K16 : ∀ (z25656 : Int32) (z25657 : Int32) (z25658 : Int32) (z25659 : Int32) (F : Nat → va_E) (H : Heap) (locs : List Loc) (ls : Array Slot), (0 ≤ z25656.toInt ∧ z25656.toInt ≤ 5) → (0 ≤ z25657.toInt ∧ z25657.toInt ≤ 1000) → (0 ≤ z25658.toInt ∧ z25658.toInt ≤ 7) → TH G ttC A s tag L F H locs → ((∀ b j : Nat, (tag b ≠ 44 ∨ j ≠ 2) → (tag b ≠ 44 ∨ j ≠ 3) → (tag b ≠ 44 ∨ j ≠ 4) → (tag b ≠ 44 ∨ j ≠ 5) → (tag b ≠ 46 ∨ j ≠ 8) → (tag b ≠ 46 ∨ j ≠ 9) → (tag b ≠ 46 ∨ j ≠ 10) → (tag b ≠ 46 ∨ j ≠ 11) → (tag b ≠ 46 ∨ j ≠ 12) → (tag b ≠ 46 ∨ j ≠ 13) → (tag b ≠ 46 ∨ j ≠ 14) → (tag b ≠ 46 ∨ j ≠ 15) → fld F b j = fld Fo b j) ∧ (∀ b j : Nat, elm F b j = elm Fo b j)) → (fld F p0 4 = .ref x0) → (fld F x0 28 = .ref x1) → (fld F x0 29 = .ref x2) → (fld F p0 9 = .int z25656) → (fld F p0 8 = .int z25657) → (fld F p0 13 = .int z25658) → (fld F x0 2 = .int z25659) → (STK x3 z25656) → (SPT x3 x4 z25656 z25657) → (KF z25656 z25658) → lv_has ls 5 [(0, .ref p0)] → W p l e { frames := 8, cells := 0, slots := 0, locals := 173 } s m args below meth c H locs 0 0 Q (F0 m 16 ls []) := by
    intro z25656 z25657 z25658 z25659 F H locs ls rz25656 rz25657 rz25658 hT hfr pf0 pf1 pf2 qz25656 qz25657 qz25658 qz25659 hstk hspt hkf hl
    have rz25659 := rg_all z25659
    refine lv_aload_n hx hb dX13_readYears_16 rfl (lv_at hl 0 rfl) ?_
    refine lv_iconst (v := 0) hx hb dX13_readYears_17 (by decide) ?_
    refine lv_iconst (v := 1) hx hb dX13_readYears_18 (by decide) ?_
    obtain ⟨z25660, qz25660, rz25660⟩ := t_fld hT mx0 gx0 rfl 0 rfl
    have rz25660 : 0 ≤ z25660.toInt ∧ z25660.toInt ≤ 12 := rz25660
    refine t_cVv (n := 2) (C := RX13) (T := TX13) (N := 37) (As := [.int 0, .int 1]) (rest := []) X hT (km15_X13_begins l G tag L F hT.2.2.2 p0 0 1 x0 x1 x2 z25656 z25657 z25658 z25660 m0 g0 mx0 gx0 pf0 mx1 gx1 pf1 mx2 gx2 pf2 (by omega) qz25656 (by omega) qz25657 (by omega) qz25658 (by omega) qz25660 hkf) m0 g0 rfl rfl qw_575 qw_576 qw_577 qw_5 qw_578 ⟨rfl, by decide +kernel, by decide +kernel, by decide +kernel⟩ ⟨Nat.le_of_ble_eq_true rfl, Nat.le_of_ble_eq_true rfl⟩ hl rfl rfl (Nat.le_of_ble_eq_true rfl) dX13_readYears_19 ⟨Nat.le_of_ble_eq_true rfl, Nat.le_of_ble_eq_true rfl⟩ (fun F H locs hT hz25661 => ?_)
    obtain ⟨yz25661, ⟨soz25661, spz25661, faz25661, qsoz25661, qspz25661, qfaz25661, rsoz25661, rspz25661, rfaz25661, stz25661, ptz25661, hkf, pxz25661_0⟩⟩ := hz25661
    have qz25659 := (yz25661.1 _ 2 (Or.inr (by decide)) (Or.inr (by decide)) (Or.inr (by decide)) (Or.inr (by decide)) (Or.inr (by decide)) (Or.inr (by decide)) (Or.inr (by decide)) (Or.inr (by decide))).trans qz25659
    have pf0 := (yz25661.1 _ 4 (Or.inr (by decide)) (Or.inr (by decide)) (Or.inr (by decide)) (Or.inr (by decide)) (Or.inr (by decide)) (Or.inr (by decide)) (Or.inr (by decide)) (Or.inr (by decide))).trans pf0
    have pf1 := (yz25661.1 _ 28 (Or.inr (by decide)) (Or.inr (by decide)) (Or.inr (by decide)) (Or.inr (by decide)) (Or.inr (by decide)) (Or.inr (by decide)) (Or.inr (by decide)) (Or.inr (by decide))).trans pf1
    have pf2 := (yz25661.1 _ 29 (Or.inr (by decide)) (Or.inr (by decide)) (Or.inr (by decide)) (Or.inr (by decide)) (Or.inr (by decide)) (Or.inr (by decide)) (Or.inr (by decide)) (Or.inr (by decide))).trans pf2
    have qz25660 := (yz25661.1 _ 0 (Or.inr (by decide)) (Or.inr (by decide)) (Or.inr (by decide)) (Or.inr (by decide)) (Or.inr (by decide)) (Or.inr (by decide)) (Or.inr (by decide)) (Or.inr (by decide))).trans qz25660
    have hfr : (∀ b j : Nat, (tag b ≠ 44 ∨ j ≠ 2) → (tag b ≠ 44 ∨ j ≠ 3) → (tag b ≠ 44 ∨ j ≠ 4) → (tag b ≠ 44 ∨ j ≠ 5) → (tag b ≠ 46 ∨ j ≠ 8) → (tag b ≠ 46 ∨ j ≠ 9) → (tag b ≠ 46 ∨ j ≠ 10) → (tag b ≠ 46 ∨ j ≠ 11) → (tag b ≠ 46 ∨ j ≠ 12) → (tag b ≠ 46 ∨ j ≠ 13) → (tag b ≠ 46 ∨ j ≠ 14) → (tag b ≠ 46 ∨ j ≠ 15) → fld F b j = fld Fo b j) ∧ (∀ b j : Nat, elm F b j = elm Fo b j) := ⟨fun b j n44_2 n44_3 n44_4 n44_5 n46_8 n46_9 n46_10 n46_11 n46_12 n46_13 n46_14 n46_15 => (yz25661.1 b j n46_8 n46_9 n46_10 n46_11 n46_12 n46_13 n46_14 n46_15).trans (hfr.1 b j n44_2 n44_3 n44_4 n44_5 n46_8 n46_9 n46_10 n46_11 n46_12 n46_13 n46_14 n46_15), fun b j  => (yz25661.2 b j ).trans (hfr.2 b j )⟩
    have hstk := STK.tr hstk stz25661
    have hspt := SPT.tr hspt ptz25661
    have k25662 : (0 : Int32).toInt = 0 := by decide
    have k25663 : (1 : Int32).toInt = 1 := by decide
    refine lv_aload_n hx hb dX13_readYears_22 rfl (lv_at hl 0 rfl) ?_
    refine lv_iconst (v := 0) hx hb dX13_readYears_23 (by decide) ?_
    refine lv_sipush (v := 900) hx hb dX13_readYears_24 (by decide) ?_
    refine t_cVi (n := 2) (C := RX13) (T := TX13) (N := 37) (As := [.int 0, .int 900]) (rest := []) X hT (km71_X13_readWhole l G tag L F hT.2.2.2 p0 0 900 x0 x1 x2 soz25661 spz25661 faz25661 m0 g0 (by decide) (by decide) mx0 gx0 pf0 mx1 gx1 pf1 mx2 gx2 pf2 (by omega) qsoz25661 (by omega) qspz25661 (by omega) qfaz25661 hkf) m0 g0 rfl rfl qw_560 qw_561 qw_562 qw_5 qw_563 ⟨rfl, by decide +kernel, by decide +kernel, by decide +kernel⟩ ⟨Nat.le_of_ble_eq_true rfl, Nat.le_of_ble_eq_true rfl⟩ hl rfl rfl (Nat.le_of_ble_eq_true rfl) dX13_readYears_27 ⟨Nat.le_of_ble_eq_true rfl, Nat.le_of_ble_eq_true rfl⟩ (fun z25664 F H locs hT hz25664 => ?_)
    obtain ⟨hz25664, yz25664, ⟨soz25664, spz25664, faz25664, qsoz25664, qspz25664, qfaz25664, rsoz25664, rspz25664, rfaz25664, stz25664, ptz25664, hkf⟩⟩ := hz25664
    have qz25659 := (yz25664.1 _ 2 (Or.inr (by decide)) (Or.inr (by decide)) (Or.inr (by decide)) (Or.inr (by decide)) (Or.inr (by decide)) (Or.inr (by decide)) (Or.inr (by decide)) (Or.inr (by decide))).trans qz25659
    have pf0 := (yz25664.1 _ 4 (Or.inr (by decide)) (Or.inr (by decide)) (Or.inr (by decide)) (Or.inr (by decide)) (Or.inr (by decide)) (Or.inr (by decide)) (Or.inr (by decide)) (Or.inr (by decide))).trans pf0
    have pf1 := (yz25664.1 _ 28 (Or.inr (by decide)) (Or.inr (by decide)) (Or.inr (by decide)) (Or.inr (by decide)) (Or.inr (by decide)) (Or.inr (by decide)) (Or.inr (by decide)) (Or.inr (by decide))).trans pf1
    have pf2 := (yz25664.1 _ 29 (Or.inr (by decide)) (Or.inr (by decide)) (Or.inr (by decide)) (Or.inr (by decide)) (Or.inr (by decide)) (Or.inr (by decide)) (Or.inr (by decide)) (Or.inr (by decide))).trans pf2
    have qz25660 := (yz25664.1 _ 0 (Or.inr (by decide)) (Or.inr (by decide)) (Or.inr (by decide)) (Or.inr (by decide)) (Or.inr (by decide)) (Or.inr (by decide)) (Or.inr (by decide)) (Or.inr (by decide))).trans qz25660
    have hfr : (∀ b j : Nat, (tag b ≠ 44 ∨ j ≠ 2) → (tag b ≠ 44 ∨ j ≠ 3) → (tag b ≠ 44 ∨ j ≠ 4) → (tag b ≠ 44 ∨ j ≠ 5) → (tag b ≠ 46 ∨ j ≠ 8) → (tag b ≠ 46 ∨ j ≠ 9) → (tag b ≠ 46 ∨ j ≠ 10) → (tag b ≠ 46 ∨ j ≠ 11) → (tag b ≠ 46 ∨ j ≠ 12) → (tag b ≠ 46 ∨ j ≠ 13) → (tag b ≠ 46 ∨ j ≠ 14) → (tag b ≠ 46 ∨ j ≠ 15) → fld F b j = fld Fo b j) ∧ (∀ b j : Nat, elm F b j = elm Fo b j) := ⟨fun b j n44_2 n44_3 n44_4 n44_5 n46_8 n46_9 n46_10 n46_11 n46_12 n46_13 n46_14 n46_15 => (yz25664.1 b j n46_8 n46_9 n46_10 n46_11 n46_12 n46_13 n46_14 n46_15).trans (hfr.1 b j n44_2 n44_3 n44_4 n44_5 n46_8 n46_9 n46_10 n46_11 n46_12 n46_13 n46_14 n46_15), fun b j  => (yz25664.2 b j ).trans (hfr.2 b j )⟩
    have hstk := STK.tr hstk stz25664
    have hspt := SPT.tr hspt ptz25664
    refine lv_istore_n (lv' := [(1, .int z25664), (0, .ref p0)]) hx hb dX13_readYears_30 rfl hl (by decide) rfl (fun ls hl => ?_)
    refine lv_aload_n hx hb dX13_readYears_31 rfl (lv_at hl 1 rfl) ?_
    refine m_ldcKw X 49 rfl dX13_readYears_32 ?_
    refine lv_iconst (v := 0) hx hb dX13_readYears_35 (by decide) ?_
    refine lv_bipush (v := 100) hx hb dX13_readYears_36 (by decide) ?_
    refine t_cVi (n := 3) (C := RX13) (T := TX13) (N := 37) (As := [.ref (G.2 (100 + 49)), .int 0, .int 100]) (rest := []) X hT (km74_X13_readPart l G tag L F hT.2.2.2 p0 49 0 100 x0 x1 x2 soz25664 spz25664 faz25664 m0 g0 (by decide) (by decide) (by decide) mx0 gx0 pf0 mx1 gx1 pf1 mx2 gx2 pf2 (by omega) qsoz25664 (by omega) qspz25664 (by omega) qfaz25664 hkf) m0 g0 rfl rfl qw_552 qw_553 qw_554 qw_5 qw_555 ⟨rfl, by decide +kernel, by decide +kernel, by decide +kernel⟩ ⟨Nat.le_of_ble_eq_true rfl, Nat.le_of_ble_eq_true rfl⟩ hl rfl rfl (Nat.le_of_ble_eq_true rfl) dX13_readYears_38 ⟨Nat.le_of_ble_eq_true rfl, Nat.le_of_ble_eq_true rfl⟩ (fun z25665 F H locs hT hz25665 => ?_)
    obtain ⟨hz25665, yz25665, ⟨soz25665, spz25665, faz25665, qsoz25665, qspz25665, qfaz25665, rsoz25665, rspz25665, rfaz25665, stz25665, ptz25665, hkf⟩⟩ := hz25665
    have qz25659 := (yz25665.1 _ 2 (Or.inr (by decide)) (Or.inr (by decide)) (Or.inr (by decide)) (Or.inr (by decide)) (Or.inr (by decide)) (Or.inr (by decide)) (Or.inr (by decide)) (Or.inr (by decide))).trans qz25659
    have pf0 := (yz25665.1 _ 4 (Or.inr (by decide)) (Or.inr (by decide)) (Or.inr (by decide)) (Or.inr (by decide)) (Or.inr (by decide)) (Or.inr (by decide)) (Or.inr (by decide)) (Or.inr (by decide))).trans pf0
    have pf1 := (yz25665.1 _ 28 (Or.inr (by decide)) (Or.inr (by decide)) (Or.inr (by decide)) (Or.inr (by decide)) (Or.inr (by decide)) (Or.inr (by decide)) (Or.inr (by decide)) (Or.inr (by decide))).trans pf1
    have pf2 := (yz25665.1 _ 29 (Or.inr (by decide)) (Or.inr (by decide)) (Or.inr (by decide)) (Or.inr (by decide)) (Or.inr (by decide)) (Or.inr (by decide)) (Or.inr (by decide)) (Or.inr (by decide))).trans pf2
    have qz25660 := (yz25665.1 _ 0 (Or.inr (by decide)) (Or.inr (by decide)) (Or.inr (by decide)) (Or.inr (by decide)) (Or.inr (by decide)) (Or.inr (by decide)) (Or.inr (by decide)) (Or.inr (by decide))).trans qz25660
    have hfr : (∀ b j : Nat, (tag b ≠ 44 ∨ j ≠ 2) → (tag b ≠ 44 ∨ j ≠ 3) → (tag b ≠ 44 ∨ j ≠ 4) → (tag b ≠ 44 ∨ j ≠ 5) → (tag b ≠ 46 ∨ j ≠ 8) → (tag b ≠ 46 ∨ j ≠ 9) → (tag b ≠ 46 ∨ j ≠ 10) → (tag b ≠ 46 ∨ j ≠ 11) → (tag b ≠ 46 ∨ j ≠ 12) → (tag b ≠ 46 ∨ j ≠ 13) → (tag b ≠ 46 ∨ j ≠ 14) → (tag b ≠ 46 ∨ j ≠ 15) → fld F b j = fld Fo b j) ∧ (∀ b j : Nat, elm F b j = elm Fo b j) := ⟨fun b j n44_2 n44_3 n44_4 n44_5 n46_8 n46_9 n46_10 n46_11 n46_12 n46_13 n46_14 n46_15 => (yz25665.1 b j n46_8 n46_9 n46_10 n46_11 n46_12 n46_13 n46_14 n46_15).trans (hfr.1 b j n44_2 n44_3 n44_4 n44_5 n46_8 n46_9 n46_10 n46_11 n46_12 n46_13 n46_14 n46_15), fun b j  => (yz25665.2 b j ).trans (hfr.2 b j )⟩
    have hstk := STK.tr hstk stz25665
    have hspt := SPT.tr hspt ptz25665
    refine lv_istore_n (lv' := [(2, .int z25665), (1, .int z25664), (0, .ref p0)]) hx hb dX13_readYears_41 rfl hl (by decide) rfl (fun ls hl => ?_)
    refine lv_aload_n hx hb dX13_readYears_42 rfl (lv_at hl 2 rfl) ?_
    refine m_ldcKw X 50 rfl dX13_readYears_43 ?_
    refine lv_iconst (v := 0) hx hb dX13_readYears_46 (by decide) ?_
    refine lv_bipush (v := 100) hx hb dX13_readYears_47 (by decide) ?_
    refine t_cVi (n := 3) (C := RX13) (T := TX13) (N := 37) (As := [.ref (G.2 (100 + 50)), .int 0, .int 100]) (rest := []) X hT (km74_X13_readPart l G tag L F hT.2.2.2 p0 50 0 100 x0 x1 x2 soz25665 spz25665 faz25665 m0 g0 (by decide) (by decide) (by decide) mx0 gx0 pf0 mx1 gx1 pf1 mx2 gx2 pf2 (by omega) qsoz25665 (by omega) qspz25665 (by omega) qfaz25665 hkf) m0 g0 rfl rfl qw_552 qw_553 qw_554 qw_5 qw_555 ⟨rfl, by decide +kernel, by decide +kernel, by decide +kernel⟩ ⟨Nat.le_of_ble_eq_true rfl, Nat.le_of_ble_eq_true rfl⟩ hl rfl rfl (Nat.le_of_ble_eq_true rfl) dX13_readYears_49 ⟨Nat.le_of_ble_eq_true rfl, Nat.le_of_ble_eq_true rfl⟩ (fun z25666 F H locs hT hz25666 => ?_)
    obtain ⟨hz25666, yz25666, ⟨soz25666, spz25666, faz25666, qsoz25666, qspz25666, qfaz25666, rsoz25666, rspz25666, rfaz25666, stz25666, ptz25666, hkf⟩⟩ := hz25666
    have qz25659 := (yz25666.1 _ 2 (Or.inr (by decide)) (Or.inr (by decide)) (Or.inr (by decide)) (Or.inr (by decide)) (Or.inr (by decide)) (Or.inr (by decide)) (Or.inr (by decide)) (Or.inr (by decide))).trans qz25659
    have pf0 := (yz25666.1 _ 4 (Or.inr (by decide)) (Or.inr (by decide)) (Or.inr (by decide)) (Or.inr (by decide)) (Or.inr (by decide)) (Or.inr (by decide)) (Or.inr (by decide)) (Or.inr (by decide))).trans pf0
    have pf1 := (yz25666.1 _ 28 (Or.inr (by decide)) (Or.inr (by decide)) (Or.inr (by decide)) (Or.inr (by decide)) (Or.inr (by decide)) (Or.inr (by decide)) (Or.inr (by decide)) (Or.inr (by decide))).trans pf1
    have pf2 := (yz25666.1 _ 29 (Or.inr (by decide)) (Or.inr (by decide)) (Or.inr (by decide)) (Or.inr (by decide)) (Or.inr (by decide)) (Or.inr (by decide)) (Or.inr (by decide)) (Or.inr (by decide))).trans pf2
    have qz25660 := (yz25666.1 _ 0 (Or.inr (by decide)) (Or.inr (by decide)) (Or.inr (by decide)) (Or.inr (by decide)) (Or.inr (by decide)) (Or.inr (by decide)) (Or.inr (by decide)) (Or.inr (by decide))).trans qz25660
    have hfr : (∀ b j : Nat, (tag b ≠ 44 ∨ j ≠ 2) → (tag b ≠ 44 ∨ j ≠ 3) → (tag b ≠ 44 ∨ j ≠ 4) → (tag b ≠ 44 ∨ j ≠ 5) → (tag b ≠ 46 ∨ j ≠ 8) → (tag b ≠ 46 ∨ j ≠ 9) → (tag b ≠ 46 ∨ j ≠ 10) → (tag b ≠ 46 ∨ j ≠ 11) → (tag b ≠ 46 ∨ j ≠ 12) → (tag b ≠ 46 ∨ j ≠ 13) → (tag b ≠ 46 ∨ j ≠ 14) → (tag b ≠ 46 ∨ j ≠ 15) → fld F b j = fld Fo b j) ∧ (∀ b j : Nat, elm F b j = elm Fo b j) := ⟨fun b j n44_2 n44_3 n44_4 n44_5 n46_8 n46_9 n46_10 n46_11 n46_12 n46_13 n46_14 n46_15 => (yz25666.1 b j n46_8 n46_9 n46_10 n46_11 n46_12 n46_13 n46_14 n46_15).trans (hfr.1 b j n44_2 n44_3 n44_4 n44_5 n46_8 n46_9 n46_10 n46_11 n46_12 n46_13 n46_14 n46_15), fun b j  => (yz25666.2 b j ).trans (hfr.2 b j )⟩
    have hstk := STK.tr hstk stz25666
    have hspt := SPT.tr hspt ptz25666
    refine lv_istore_n (lv' := [(3, .int z25666), (2, .int z25665), (1, .int z25664), (0, .ref p0)]) hx hb dX13_readYears_52 rfl hl (by decide) rfl (fun ls hl => ?_)
    refine lv_aload_n hx hb dX13_readYears_53 rfl (lv_at hl 3 rfl) ?_
    refine m_ldcKw X 51 rfl dX13_readYears_54 ?_
    refine lv_iconst (v := 0) hx hb dX13_readYears_57 (by decide) ?_
    refine lv_bipush (v := 9) hx hb dX13_readYears_58 (by decide) ?_
    refine t_cVi (n := 3) (C := RX13) (T := TX13) (N := 37) (As := [.ref (G.2 (100 + 51)), .int 0, .int 9]) (rest := []) X hT (km63_X13_readPart l G tag L F hT.2.2.2 p0 51 0 9 x0 x1 x2 soz25666 spz25666 faz25666 m0 g0 (by decide) (by decide) (by decide) mx0 gx0 pf0 mx1 gx1 pf1 mx2 gx2 pf2 (by omega) qsoz25666 (by omega) qspz25666 (by omega) qfaz25666 hkf) m0 g0 rfl rfl qw_552 qw_553 qw_554 qw_5 qw_555 ⟨rfl, by decide +kernel, by decide +kernel, by decide +kernel⟩ ⟨Nat.le_of_ble_eq_true rfl, Nat.le_of_ble_eq_true rfl⟩ hl rfl rfl (Nat.le_of_ble_eq_true rfl) dX13_readYears_60 ⟨Nat.le_of_ble_eq_true rfl, Nat.le_of_ble_eq_true rfl⟩ (fun z25667 F H locs hT hz25667 => ?_)
    obtain ⟨hz25667, yz25667, ⟨soz25667, spz25667, faz25667, qsoz25667, qspz25667, qfaz25667, rsoz25667, rspz25667, rfaz25667, stz25667, ptz25667, hkf⟩⟩ := hz25667
    have qz25659 := (yz25667.1 _ 2 (Or.inr (by decide)) (Or.inr (by decide)) (Or.inr (by decide)) (Or.inr (by decide)) (Or.inr (by decide)) (Or.inr (by decide)) (Or.inr (by decide)) (Or.inr (by decide))).trans qz25659
    have pf0 := (yz25667.1 _ 4 (Or.inr (by decide)) (Or.inr (by decide)) (Or.inr (by decide)) (Or.inr (by decide)) (Or.inr (by decide)) (Or.inr (by decide)) (Or.inr (by decide)) (Or.inr (by decide))).trans pf0
    have pf1 := (yz25667.1 _ 28 (Or.inr (by decide)) (Or.inr (by decide)) (Or.inr (by decide)) (Or.inr (by decide)) (Or.inr (by decide)) (Or.inr (by decide)) (Or.inr (by decide)) (Or.inr (by decide))).trans pf1
    have pf2 := (yz25667.1 _ 29 (Or.inr (by decide)) (Or.inr (by decide)) (Or.inr (by decide)) (Or.inr (by decide)) (Or.inr (by decide)) (Or.inr (by decide)) (Or.inr (by decide)) (Or.inr (by decide))).trans pf2
    have qz25660 := (yz25667.1 _ 0 (Or.inr (by decide)) (Or.inr (by decide)) (Or.inr (by decide)) (Or.inr (by decide)) (Or.inr (by decide)) (Or.inr (by decide)) (Or.inr (by decide)) (Or.inr (by decide))).trans qz25660
    have hfr : (∀ b j : Nat, (tag b ≠ 44 ∨ j ≠ 2) → (tag b ≠ 44 ∨ j ≠ 3) → (tag b ≠ 44 ∨ j ≠ 4) → (tag b ≠ 44 ∨ j ≠ 5) → (tag b ≠ 46 ∨ j ≠ 8) → (tag b ≠ 46 ∨ j ≠ 9) → (tag b ≠ 46 ∨ j ≠ 10) → (tag b ≠ 46 ∨ j ≠ 11) → (tag b ≠ 46 ∨ j ≠ 12) → (tag b ≠ 46 ∨ j ≠ 13) → (tag b ≠ 46 ∨ j ≠ 14) → (tag b ≠ 46 ∨ j ≠ 15) → fld F b j = fld Fo b j) ∧ (∀ b j : Nat, elm F b j = elm Fo b j) := ⟨fun b j n44_2 n44_3 n44_4 n44_5 n46_8 n46_9 n46_10 n46_11 n46_12 n46_13 n46_14 n46_15 => (yz25667.1 b j n46_8 n46_9 n46_10 n46_11 n46_12 n46_13 n46_14 n46_15).trans (hfr.1 b j n44_2 n44_3 n44_4 n44_5 n46_8 n46_9 n46_10 n46_11 n46_12 n46_13 n46_14 n46_15), fun b j  => (yz25667.2 b j ).trans (hfr.2 b j )⟩
    have hstk := STK.tr hstk stz25667
    have hspt := SPT.tr hspt ptz25667
    refine lv_istore (lv' := [(4, .int z25667), (3, .int z25666), (2, .int z25665), (1, .int z25664), (0, .ref p0)]) hx hb dX13_readYears_63 hl (by decide) rfl (fun ls hl => ?_)
    refine lv_aload_n hx hb dX13_readYears_65 rfl (lv_at hl 4 rfl) ?_
    refine t_get (C := RX13) (T := TX13) (N := 37) X hT m0 g0 rfl rfl 9 (by decide) qw_478 inlX13 rfl dX13_readYears_66 (fun v25668 hv25668 ov25668 => ?_)
    obtain rfl : v25668 = .int soz25667 := hv25668.symm.trans qsoz25667
    refine lv_iconst (v := 5) hx hb dX13_readYears_69 (by decide) ?_
    refine lv_icmp_ne (tgt := 74) hx hb dX13_readYears_70 (by decide) (fun c25669 => ?_) (fun c25669 => ?_)
    · have w25670 := cv_ne (rfl : soz25667.toInt = soz25667.toInt) (by decide : (5 : Int32).toInt = 5) c25669
      have w25671 := (fun (h9 : soz25667.toInt ≠ 5) => (fun (h9 : soz25666.toInt ≠ 5) => (fun (h9 : soz25665.toInt ≠ 5) => (fun (h9 : soz25664.toInt ≠ 5) => pxz25661_0 (fun e9 => h9 (stz25664 e9))) (fun e9 => h9 (stz25665 e9))) (fun e9 => h9 (stz25666 e9))) (fun e9 => h9 (stz25667 e9))) (by omega)
      refine lv_aload_n hx hb dX13_readYears_74 rfl (lv_at hl 4 rfl) ?_
      refine t_get (C := RX13) (T := TX13) (N := 37) X hT m0 g0 rfl rfl 4 (by decide) qw_477 inlX13 rfl dX13_readYears_75 (fun v25672 hv25672 ov25672 => ?_)
      obtain rfl : v25672 = .ref x0 := hv25672.symm.trans pf0
      refine lv_iload_n hx hb dX13_readYears_78 rfl (lv_at hl 3 rfl) ?_
      refine t_putN (C := RX12) (T := TX12) (N := 31) (v := .int z25664) X hT mx0 gx0 rfl tyX12 tyX12_ok nmX12 rfl 2 (by decide) (List.mem_of_getElem? (i := 6) rfl) inlX12 rfl (by first | rfl | decide) (by first | rfl | decide) rfl (⟨_, rfl, (show (-2147483648) ≤ (z25664 : Int32).toInt from (by omega)), (show (z25664 : Int32).toInt ≤ 2147483647 from (by omega))⟩) dX13_readYears_79 (fun F H locs hT v25673 h1v25673 h2v25673 => ?_)
      have pf0 := (h1v25673 _ _ (Or.inr (by decide))).trans pf0
      have pf1 := (h1v25673 _ _ (Or.inr (by decide))).trans pf1
      have pf2 := (h1v25673 _ _ (Or.inr (by decide))).trans pf2
      have qz25660 := (h1v25673 _ _ (Or.inr (by decide))).trans qz25660
      have qsoz25667 := (h1v25673 _ _ (Or.inr (by decide))).trans qsoz25667
      have qspz25667 := (h1v25673 _ _ (Or.inr (by decide))).trans qspz25667
      have qfaz25667 := (h1v25673 _ _ (Or.inr (by decide))).trans qfaz25667
      have hfr : (∀ b j : Nat, (tag b ≠ 44 ∨ j ≠ 2) → (tag b ≠ 44 ∨ j ≠ 3) → (tag b ≠ 44 ∨ j ≠ 4) → (tag b ≠ 44 ∨ j ≠ 5) → (tag b ≠ 46 ∨ j ≠ 8) → (tag b ≠ 46 ∨ j ≠ 9) → (tag b ≠ 46 ∨ j ≠ 10) → (tag b ≠ 46 ∨ j ≠ 11) → (tag b ≠ 46 ∨ j ≠ 12) → (tag b ≠ 46 ∨ j ≠ 13) → (tag b ≠ 46 ∨ j ≠ 14) → (tag b ≠ 46 ∨ j ≠ 15) → fld F b j = fld Fo b j) ∧ (∀ b j : Nat, elm F b j = elm Fo b j) := ⟨fun b j n44_2 n44_3 n44_4 n44_5 n46_8 n46_9 n46_10 n46_11 n46_12 n46_13 n46_14 n46_15 => (h1v25673 b j (fr_ne gx0 n44_2)).trans (hfr.1 b j n44_2 n44_3 n44_4 n44_5 n46_8 n46_9 n46_10 n46_11 n46_12 n46_13 n46_14 n46_15), fun b j  => (h2v25673 b j).trans (hfr.2 b j )⟩
      refine lv_aload_n hx hb dX13_readYears_82 rfl (lv_at hl 4 rfl) ?_
      refine t_get (C := RX13) (T := TX13) (N := 37) X hT m0 g0 rfl rfl 4 (by decide) qw_477 inlX13 rfl dX13_readYears_83 (fun v25674 hv25674 ov25674 => ?_)
      obtain rfl : v25674 = .ref x0 := hv25674.symm.trans pf0
      refine lv_iload_n hx hb dX13_readYears_86 rfl (lv_at hl 2 rfl) ?_
      refine t_putN (C := RX12) (T := TX12) (N := 31) (v := .int z25665) X hT mx0 gx0 rfl tyX12 tyX12_ok nmX12 rfl 3 (by decide) (List.mem_of_getElem? (i := 7) rfl) inlX12 rfl (by first | rfl | decide) (by first | rfl | decide) rfl (⟨_, rfl, (show (-2147483648) ≤ (z25665 : Int32).toInt from (by omega)), (show (z25665 : Int32).toInt ≤ 2147483647 from (by omega))⟩) dX13_readYears_87 (fun F H locs hT v25675 h1v25675 h2v25675 => ?_)
      have pf0 := (h1v25675 _ _ (Or.inr (by decide))).trans pf0
      have pf1 := (h1v25675 _ _ (Or.inr (by decide))).trans pf1
      have pf2 := (h1v25675 _ _ (Or.inr (by decide))).trans pf2
      have qz25660 := (h1v25675 _ _ (Or.inr (by decide))).trans qz25660
      have qsoz25667 := (h1v25675 _ _ (Or.inr (by decide))).trans qsoz25667
      have qspz25667 := (h1v25675 _ _ (Or.inr (by decide))).trans qspz25667
      have qfaz25667 := (h1v25675 _ _ (Or.inr (by decide))).trans qfaz25667
      have v25673 := (h1v25675 _ _ (Or.inr (by decide))).trans v25673
      have hfr : (∀ b j : Nat, (tag b ≠ 44 ∨ j ≠ 2) → (tag b ≠ 44 ∨ j ≠ 3) → (tag b ≠ 44 ∨ j ≠ 4) → (tag b ≠ 44 ∨ j ≠ 5) → (tag b ≠ 46 ∨ j ≠ 8) → (tag b ≠ 46 ∨ j ≠ 9) → (tag b ≠ 46 ∨ j ≠ 10) → (tag b ≠ 46 ∨ j ≠ 11) → (tag b ≠ 46 ∨ j ≠ 12) → (tag b ≠ 46 ∨ j ≠ 13) → (tag b ≠ 46 ∨ j ≠ 14) → (tag b ≠ 46 ∨ j ≠ 15) → fld F b j = fld Fo b j) ∧ (∀ b j : Nat, elm F b j = elm Fo b j) := ⟨fun b j n44_2 n44_3 n44_4 n44_5 n46_8 n46_9 n46_10 n46_11 n46_12 n46_13 n46_14 n46_15 => (h1v25675 b j (fr_ne gx0 n44_3)).trans (hfr.1 b j n44_2 n44_3 n44_4 n44_5 n46_8 n46_9 n46_10 n46_11 n46_12 n46_13 n46_14 n46_15), fun b j  => (h2v25675 b j).trans (hfr.2 b j )⟩
      refine lv_aload_n hx hb dX13_readYears_90 rfl (lv_at hl 4 rfl) ?_
      refine t_get (C := RX13) (T := TX13) (N := 37) X hT m0 g0 rfl rfl 4 (by decide) qw_477 inlX13 rfl dX13_readYears_91 (fun v25676 hv25676 ov25676 => ?_)
      obtain rfl : v25676 = .ref x0 := hv25676.symm.trans pf0
      refine lv_iload_n hx hb dX13_readYears_94 rfl (lv_at hl 1 rfl) ?_
      refine t_putN (C := RX12) (T := TX12) (N := 31) (v := .int z25666) X hT mx0 gx0 rfl tyX12 tyX12_ok nmX12 rfl 4 (by decide) (List.mem_of_getElem? (i := 8) rfl) inlX12 rfl (by first | rfl | decide) (by first | rfl | decide) rfl (⟨_, rfl, (show (-2147483648) ≤ (z25666 : Int32).toInt from (by omega)), (show (z25666 : Int32).toInt ≤ 2147483647 from (by omega))⟩) dX13_readYears_95 (fun F H locs hT v25677 h1v25677 h2v25677 => ?_)
      have pf0 := (h1v25677 _ _ (Or.inl (tne g0 gx0 (by decide)))).trans pf0
      have pf1 := (h1v25677 _ _ (Or.inr (by decide))).trans pf1
      have pf2 := (h1v25677 _ _ (Or.inr (by decide))).trans pf2
      have qz25660 := (h1v25677 _ _ (Or.inr (by decide))).trans qz25660
      have qsoz25667 := (h1v25677 _ _ (Or.inr (by decide))).trans qsoz25667
      have qspz25667 := (h1v25677 _ _ (Or.inr (by decide))).trans qspz25667
      have qfaz25667 := (h1v25677 _ _ (Or.inr (by decide))).trans qfaz25667
      have v25673 := (h1v25677 _ _ (Or.inr (by decide))).trans v25673
      have v25675 := (h1v25677 _ _ (Or.inr (by decide))).trans v25675
      have hfr : (∀ b j : Nat, (tag b ≠ 44 ∨ j ≠ 2) → (tag b ≠ 44 ∨ j ≠ 3) → (tag b ≠ 44 ∨ j ≠ 4) → (tag b ≠ 44 ∨ j ≠ 5) → (tag b ≠ 46 ∨ j ≠ 8) → (tag b ≠ 46 ∨ j ≠ 9) → (tag b ≠ 46 ∨ j ≠ 10) → (tag b ≠ 46 ∨ j ≠ 11) → (tag b ≠ 46 ∨ j ≠ 12) → (tag b ≠ 46 ∨ j ≠ 13) → (tag b ≠ 46 ∨ j ≠ 14) → (tag b ≠ 46 ∨ j ≠ 15) → fld F b j = fld Fo b j) ∧ (∀ b j : Nat, elm F b j = elm Fo b j) := ⟨fun b j n44_2 n44_3 n44_4 n44_5 n46_8 n46_9 n46_10 n46_11 n46_12 n46_13 n46_14 n46_15 => (h1v25677 b j (fr_ne gx0 n44_4)).trans (hfr.1 b j n44_2 n44_3 n44_4 n44_5 n46_8 n46_9 n46_10 n46_11 n46_12 n46_13 n46_14 n46_15), fun b j  => (h2v25677 b j).trans (hfr.2 b j )⟩
      refine lv_aload_n hx hb dX13_readYears_98 rfl (lv_at hl 4 rfl) ?_
      refine t_get (C := RX13) (T := TX13) (N := 37) X hT m0 g0 rfl rfl 4 (by decide) qw_477 inlX13 rfl dX13_readYears_99 (fun v25678 hv25678 ov25678 => ?_)
      obtain rfl : v25678 = .ref x0 := hv25678.symm.trans pf0
      refine lv_iload hx hb dX13_readYears_102 (lv_at hl 0 rfl) ?_
      refine t_putN (C := RX12) (T := TX12) (N := 31) (v := .int z25667) X hT mx0 gx0 rfl tyX12 tyX12_ok nmX12 rfl 5 (by decide) (List.mem_of_getElem? (i := 9) rfl) inlX12 rfl (by first | rfl | decide) (by first | rfl | decide) rfl (⟨_, rfl, (show (-2147483648) ≤ (z25667 : Int32).toInt from (by omega)), (show (z25667 : Int32).toInt ≤ 2147483647 from (by omega))⟩) dX13_readYears_104 (fun F H locs hT v25679 h1v25679 h2v25679 => ?_)
      have pf0 := (h1v25679 _ _ (Or.inr (by decide))).trans pf0
      have pf1 := (h1v25679 _ _ (Or.inr (by decide))).trans pf1
      have pf2 := (h1v25679 _ _ (Or.inr (by decide))).trans pf2
      have qz25660 := (h1v25679 _ _ (Or.inr (by decide))).trans qz25660
      have qsoz25667 := (h1v25679 _ _ (Or.inr (by decide))).trans qsoz25667
      have qspz25667 := (h1v25679 _ _ (Or.inr (by decide))).trans qspz25667
      have qfaz25667 := (h1v25679 _ _ (Or.inr (by decide))).trans qfaz25667
      have v25673 := (h1v25679 _ _ (Or.inr (by decide))).trans v25673
      have v25675 := (h1v25679 _ _ (Or.inr (by decide))).trans v25675
      have v25677 := (h1v25679 _ _ (Or.inr (by decide))).trans v25677
      have hfr : (∀ b j : Nat, (tag b ≠ 44 ∨ j ≠ 2) → (tag b ≠ 44 ∨ j ≠ 3) → (tag b ≠ 44 ∨ j ≠ 4) → (tag b ≠ 44 ∨ j ≠ 5) → (tag b ≠ 46 ∨ j ≠ 8) → (tag b ≠ 46 ∨ j ≠ 9) → (tag b ≠ 46 ∨ j ≠ 10) → (tag b ≠ 46 ∨ j ≠ 11) → (tag b ≠ 46 ∨ j ≠ 12) → (tag b ≠ 46 ∨ j ≠ 13) → (tag b ≠ 46 ∨ j ≠ 14) → (tag b ≠ 46 ∨ j ≠ 15) → fld F b j = fld Fo b j) ∧ (∀ b j : Nat, elm F b j = elm Fo b j) := ⟨fun b j n44_2 n44_3 n44_4 n44_5 n46_8 n46_9 n46_10 n46_11 n46_12 n46_13 n46_14 n46_15 => (h1v25679 b j (fr_ne gx0 n44_5)).trans (hfr.1 b j n44_2 n44_3 n44_4 n44_5 n46_8 n46_9 n46_10 n46_11 n46_12 n46_13 n46_14 n46_15), fun b j  => (h2v25679 b j).trans (hfr.2 b j )⟩
      exact t_vret hQ X hT ⟨hfr, ⟨soz25667, spz25667, faz25667, qsoz25667, qspz25667, qfaz25667, (by omega), (by omega), (by omega), hstk, hspt, hkf⟩⟩ (Nat.le_of_ble_eq_true rfl) (Nat.le_of_ble_eq_true rfl) dX13_readYears_107
    · have w25680 := cv_eq (rfl : soz25667.toInt = soz25667.toInt) (by decide : (5 : Int32).toInt = 5) c25669
      exact t_vret hQ X hT ⟨hfr, ⟨soz25667, spz25667, faz25667, qsoz25667, qspz25667, qfaz25667, (by omega), (by omega), (by omega), hstk, hspt, hkf⟩⟩ (Nat.le_of_ble_eq_true rfl) (Nat.le_of_ble_eq_true rfl) dX13_readYears_73
  refine lv_aload_n hx hb dX13_readYears_0 rfl (lv_at hl 0 rfl) ?_
  refine t_get (C := RX13) (T := TX13) (N := 37) X hT m0 g0 rfl rfl 4 (by decide) qw_477 inlX13 rfl dX13_readYears_1 (fun v25681 hv25681 ov25681 => ?_)
  obtain rfl : v25681 = .ref x0 := hv25681.symm.trans pf0
  refine t_getN (C := RX12) (T := TX12) (N := 31) X hT mx0 gx0 rfl rfl 2 (by decide) (List.mem_of_getElem? (i := 6) rfl) inlX12 rfl dX13_readYears_4 (fun v25682 hv25682 ov25682 => ?_)
  obtain ⟨z25683, rfl, rz25683⟩ := okV_i ov25682
  refine lv_iconst (v := (-1)) hx hb dX13_readYears_7 (by decide) ?_
  refine lv_icmp_eq (tgt := 16) hx hb dX13_readYears_8 (by decide) (fun c25684 => ?_) (fun c25684 => ?_)
  · have w25685 := cv_eq (rfl : z25683.toInt = z25683.toInt) (by decide : ((-1) : Int32).toInt = (-1)) c25684
    exact K16 x3 x4 x5 z25683 _ _ _ _ (by omega) (by omega) (by omega) hT hfr pf0 pf1 pf2 pf3 pf4 pf5 hv25682 hstk hspt hkf (lv_sub hl [0] rfl)
  · have w25686 := cv_ne (rfl : z25683.toInt = z25683.toInt) (by decide : ((-1) : Int32).toInt = (-1)) c25684
    refine lv_aload_n hx hb dX13_readYears_11 rfl (lv_at hl 0 rfl) ?_
    refine lv_iconst (v := 3) hx hb dX13_readYears_12 (by decide) ?_
    refine t_cVv (n := 1) (C := RX13) (T := TX13) (N := 37) (As := [.int 3]) (rest := []) X hT (km10_X13_flaw l G tag L F hT.2.2.2 p0 3 x0 x1 x2 x3 x4 x5 m0 g0 (by decide) mx0 gx0 pf0 mx1 gx1 pf1 mx2 gx2 pf2 (by omega) pf3 (by omega) pf4 (by omega) pf5 hkf) m0 g0 rfl rfl qw_548 qw_549 qw_550 qw_5 qw_551 ⟨rfl, by decide +kernel, by decide +kernel, by decide +kernel⟩ ⟨Nat.le_of_ble_eq_true rfl, Nat.le_of_ble_eq_true rfl⟩ hl rfl rfl (Nat.le_of_ble_eq_true rfl) dX13_readYears_13 ⟨Nat.le_of_ble_eq_true rfl, Nat.le_of_ble_eq_true rfl⟩ (fun F H locs hT hz25687 => ?_)
    obtain ⟨yz25687, ⟨soz25687, spz25687, faz25687, qsoz25687, qspz25687, qfaz25687, rsoz25687, rspz25687, rfaz25687, stz25687, ptz25687, hkf, pxz25687_0⟩⟩ := hz25687
    have pf0 := (yz25687.1 _ 4 (Or.inr (by decide)) (Or.inr (by decide)) (Or.inr (by decide))).trans pf0
    have pf1 := (yz25687.1 _ 28 (Or.inr (by decide)) (Or.inr (by decide)) (Or.inr (by decide))).trans pf1
    have pf2 := (yz25687.1 _ 29 (Or.inr (by decide)) (Or.inr (by decide)) (Or.inr (by decide))).trans pf2
    have pf4 := (yz25687.1 _ 8 (Or.inr (by decide)) (Or.inr (by decide)) (Or.inr (by decide))).trans pf4
    have hv25682 := (yz25687.1 _ 2 (Or.inr (by decide)) (Or.inr (by decide)) (Or.inr (by decide))).trans hv25682
    have hfr : (∀ b j : Nat, (tag b ≠ 44 ∨ j ≠ 2) → (tag b ≠ 44 ∨ j ≠ 3) → (tag b ≠ 44 ∨ j ≠ 4) → (tag b ≠ 44 ∨ j ≠ 5) → (tag b ≠ 46 ∨ j ≠ 8) → (tag b ≠ 46 ∨ j ≠ 9) → (tag b ≠ 46 ∨ j ≠ 10) → (tag b ≠ 46 ∨ j ≠ 11) → (tag b ≠ 46 ∨ j ≠ 12) → (tag b ≠ 46 ∨ j ≠ 13) → (tag b ≠ 46 ∨ j ≠ 14) → (tag b ≠ 46 ∨ j ≠ 15) → fld F b j = fld Fo b j) ∧ (∀ b j : Nat, elm F b j = elm Fo b j) := ⟨fun b j n44_2 n44_3 n44_4 n44_5 n46_8 n46_9 n46_10 n46_11 n46_12 n46_13 n46_14 n46_15 => (yz25687.1 b j n46_9 n46_13 n46_14).trans (hfr.1 b j n44_2 n44_3 n44_4 n44_5 n46_8 n46_9 n46_10 n46_11 n46_12 n46_13 n46_14 n46_15), fun b j  => (yz25687.2 b j ).trans (hfr.2 b j )⟩
    have hstk := STK.tr hstk stz25687
    have hspt := SPT.tr hspt ptz25687
    exact K16 soz25687 spz25687 faz25687 z25683 _ _ _ _ (by omega) (by omega) (by omega) hT hfr pf0 pf1 pf2 qsoz25687 qspz25687 qfaz25687 hv25682 hstk hspt hkf (lv_sub hl [0] rfl)
set_option maxHeartbeats 4000000 in
set_option maxRecDepth 100000 in
theorem km76_X13_bounded (l : Launch) (G : KG) (tag : Nat → Nat) (L : List Nat) (Fo : Nat → va_E) (ho : okT G ttC tag L Fo) (p0 : Nat) (p1 : Int32) (p2 : Int32) (x0 : Nat) (x1 : Nat) (x2 : Nat) (x3 : Int32) (x4 : Int32) (x5 : Int32) (m0 : p0 ∈ L) (g0 : tag p0 = 46) (h1 : 3 ≤ p1.toInt ∧ p1.toInt ≤ 3) (h2 : 12 ≤ p2.toInt ∧ p2.toInt ≤ 12) (mx0 : x0 ∈ L) (gx0 : tag x0 = 44) (pf0 : fld Fo p0 4 = .ref x0) (mx1 : x1 ∈ L) (gx1 : tag x1 = 35) (pf1 : fld Fo x0 28 = .ref x1) (mx2 : x2 ∈ L) (gx2 : tag x2 = 36) (pf2 : fld Fo x0 29 = .ref x2) (hx3 : 0 ≤ x3.toInt ∧ x3.toInt ≤ 5) (pf3 : fld Fo p0 9 = .int x3) (hx4 : 0 ≤ x4.toInt ∧ x4.toInt ≤ 1000) (pf4 : fld Fo p0 8 = .int x4) (hx5 : 0 ≤ x5.toInt ∧ x5.toInt ≤ 7) (pf5 : fld Fo p0 13 = .int x5) (hkf : KF x3 x5) : TMi l yX13_bounded cX13_bounded 3 (some .int) { frames := 1, cells := 0, slots := 0, locals := 22 } G ttC tag L Fo [.ref p0, .int p1, .int p2] (fun r F1 => (3 ≤ r.toInt ∧ r.toInt ≤ 12) ∧ ((∀ b j : Nat, (tag b ≠ 46 ∨ j ≠ 9) → (tag b ≠ 46 ∨ j ≠ 13) → (tag b ≠ 46 ∨ j ≠ 14) → fld F1 b j = fld Fo b j) ∧ (∀ b j : Nat, elm F1 b j = elm Fo b j)) ∧ (∃ so sp fa : Int32, fld F1 p0 9 = .int so ∧ fld F1 p0 8 = .int sp ∧ fld F1 p0 13 = .int fa ∧ (0 ≤ so.toInt ∧ so.toInt ≤ 5) ∧ (0 ≤ sp.toInt ∧ sp.toInt ≤ 1000) ∧ (0 ≤ fa.toInt ∧ fa.toInt ≤ 7) ∧ STK x3 so ∧ SPT x3 x4 so sp ∧ KF so fa)) := by
  refine t_bodyi (y := yX13_bounded) (cd := cX13_bounded) (mL := 3) (rt := (some .int)) (rm := { frames := 1, cells := 0, slots := 0, locals := 22 }) (av := [.ref p0, .int p1, .int p2]) (by decide) (Nat.le_of_ble_eq_true rfl) ho ?_
  intro p e s m args below meth c ls A Q hQ X hT hl
  have hx := X.1.1
  have hb := X.1.2.1
  have hl : lv_has ls 3 [(0, .ref p0), (1, .int p1), (2, .int p2)] := hl
  obtain ⟨F, hFo⟩ : ∃ F : Nat → va_E, F = Fo := ⟨_, rfl⟩
  rw [← hFo] at hT pf0 pf1 pf2 pf3 pf4 pf5
  have hfr : (∀ b j : Nat, (tag b ≠ 46 ∨ j ≠ 9) → (tag b ≠ 46 ∨ j ≠ 13) → (tag b ≠ 46 ∨ j ≠ 14) → fld F b j = fld Fo b j) ∧ (∀ b j : Nat, elm F b j = elm Fo b j) := by
    rw [hFo]
    exact ⟨by intros; rfl, by intros; rfl⟩
  have hstk : STK x3 x3 := STK.rf
  have hspt : SPT x3 x4 x3 x4 := SPT.rf
  refine lv_aload_n hx hb dX13_bounded_0 rfl (lv_at hl 0 rfl) ?_
  refine t_get (C := RX13) (T := TX13) (N := 37) X hT m0 g0 rfl rfl 9 (by decide) qw_478 inlX13 rfl dX13_bounded_1 (fun v25984 hv25984 ov25984 => ?_)
  obtain rfl : v25984 = .int x3 := hv25984.symm.trans pf3
  refine lv_iconst (v := 3) hx hb dX13_bounded_4 (by decide) ?_
  refine lv_icmp_eq (tgt := 16) hx hb dX13_bounded_5 (by decide) (fun c25985 => ?_) (fun c25985 => ?_)
  · have w25986 := cv_eq (rfl : x3.toInt = x3.toInt) (by decide : (3 : Int32).toInt = 3) c25985
    refine lv_aload_n hx hb dX13_bounded_16 rfl (lv_at hl 0 rfl) ?_
    refine t_get (C := RX13) (T := TX13) (N := 37) X hT m0 g0 rfl rfl 12 (by decide) qw_516 inlX13 rfl dX13_bounded_17 (fun v25987 hv25987 ov25987 => ?_)
    obtain ⟨z25988, rfl, rz25988⟩ := okV_i ov25987
    refine lv_iload_n hx hb dX13_bounded_20 rfl (lv_at hl 1 rfl) ?_
    refine lv_iload_n hx hb dX13_bounded_21 rfl (lv_at hl 2 rfl) ?_
    refine t_cSi (n := 3) (As := [.int z25988, .int p1, .int p2]) (rest := []) X hT (km19_X13_within l G tag L F hT.2.2.2 z25988 p1 p2 ) qw_568 qw_569 qw_5 qw_570 ⟨by decide +kernel, by decide +kernel, by decide +kernel⟩ ⟨Nat.le_of_ble_eq_true rfl, Nat.le_of_ble_eq_true rfl⟩ hl rfl rfl (Nat.le_of_ble_eq_true rfl) dX13_bounded_22 ⟨Nat.le_of_ble_eq_true rfl, Nat.le_of_ble_eq_true rfl⟩ (fun z25989 F9 H locs hT hz25989 => ?_)
    obtain ⟨fz25989, hz25989, xz25989_0⟩ := hz25989
    rw [fz25989] at hT
    refine lv_if_ne (tgt := 33) hx hb dX13_bounded_25 (by decide) (fun c25990 => ?_) (fun c25990 => ?_)
    · have w25991 := cv_ne (rfl : z25989.toInt = z25989.toInt) (by decide : (0 : Int32).toInt = 0) c25990
      have w25992 := xz25989_0 (by omega)
      refine lv_aload_n hx hb dX13_bounded_33 rfl (lv_at hl 0 rfl) ?_
      refine t_get (C := RX13) (T := TX13) (N := 37) X hT m0 g0 rfl rfl 9 (by decide) qw_478 inlX13 rfl dX13_bounded_34 (fun v25993 hv25993 ov25993 => ?_)
      obtain rfl : v25993 = .int x3 := hv25993.symm.trans pf3
      refine lv_iconst (v := 5) hx hb dX13_bounded_37 (by decide) ?_
      refine lv_icmp_ne (tgt := 45) hx hb dX13_bounded_38 (by decide) (fun c25994 => ?_) (fun c25994 => ?_)
      · have w25995 := cv_ne (rfl : x3.toInt = x3.toInt) (by decide : (5 : Int32).toInt = 5) c25994
        refine lv_aload_n hx hb dX13_bounded_45 rfl (lv_at hl 0 rfl) ?_
        refine t_get (C := RX13) (T := TX13) (N := 37) X hT m0 g0 rfl rfl 12 (by decide) qw_516 inlX13 rfl dX13_bounded_46 (fun v25996 hv25996 ov25996 => ?_)
        obtain rfl : v25996 = .int z25988 := hv25996.symm.trans hv25987
        exact t_iret hQ X hT (⟨(by omega), hfr, ⟨x3, x4, x5, pf3, pf4, pf5, (by omega), (by omega), (by omega), hstk, hspt, hkf⟩⟩) (Nat.le_of_ble_eq_true rfl) (Nat.le_of_ble_eq_true rfl) dX13_bounded_49
      · have w25997 := cv_eq (rfl : x3.toInt = x3.toInt) (by decide : (5 : Int32).toInt = 5) c25994
        exfalso
        omega
    · have w25998 := cv_eq (rfl : z25989.toInt = z25989.toInt) (by decide : (0 : Int32).toInt = 0) c25990
      refine lv_aload_n hx hb dX13_bounded_28 rfl (lv_at hl 0 rfl) ?_
      refine lv_iconst (v := 4) hx hb dX13_bounded_29 (by decide) ?_
      refine t_cVv (n := 1) (C := RX13) (T := TX13) (N := 37) (As := [.int 4]) (rest := []) X hT (km10_X13_flaw l G tag L F hT.2.2.2 p0 4 x0 x1 x2 x3 x4 x5 m0 g0 (by decide) mx0 gx0 pf0 mx1 gx1 pf1 mx2 gx2 pf2 (by omega) pf3 (by omega) pf4 (by omega) pf5 hkf) m0 g0 rfl rfl qw_548 qw_549 qw_550 qw_5 qw_551 ⟨rfl, by decide +kernel, by decide +kernel, by decide +kernel⟩ ⟨Nat.le_of_ble_eq_true rfl, Nat.le_of_ble_eq_true rfl⟩ hl rfl rfl (Nat.le_of_ble_eq_true rfl) dX13_bounded_30 ⟨Nat.le_of_ble_eq_true rfl, Nat.le_of_ble_eq_true rfl⟩ (fun F H locs hT hz25999 => ?_)
      obtain ⟨yz25999, ⟨soz25999, spz25999, faz25999, qsoz25999, qspz25999, qfaz25999, rsoz25999, rspz25999, rfaz25999, stz25999, ptz25999, hkf, pxz25999_0⟩⟩ := hz25999
      have pf0 := (yz25999.1 _ 4 (Or.inr (by decide)) (Or.inr (by decide)) (Or.inr (by decide))).trans pf0
      have pf1 := (yz25999.1 _ 28 (Or.inr (by decide)) (Or.inr (by decide)) (Or.inr (by decide))).trans pf1
      have pf2 := (yz25999.1 _ 29 (Or.inr (by decide)) (Or.inr (by decide)) (Or.inr (by decide))).trans pf2
      have pf4 := (yz25999.1 _ 8 (Or.inr (by decide)) (Or.inr (by decide)) (Or.inr (by decide))).trans pf4
      have hv25987 := (yz25999.1 _ 12 (Or.inr (by decide)) (Or.inr (by decide)) (Or.inr (by decide))).trans hv25987
      have hfr : (∀ b j : Nat, (tag b ≠ 46 ∨ j ≠ 9) → (tag b ≠ 46 ∨ j ≠ 13) → (tag b ≠ 46 ∨ j ≠ 14) → fld F b j = fld Fo b j) ∧ (∀ b j : Nat, elm F b j = elm Fo b j) := ⟨fun b j n46_9 n46_13 n46_14 => (yz25999.1 b j n46_9 n46_13 n46_14).trans (hfr.1 b j n46_9 n46_13 n46_14), fun b j  => (yz25999.2 b j ).trans (hfr.2 b j )⟩
      have hstk := STK.tr hstk stz25999
      have hspt := SPT.tr hspt ptz25999
      refine lv_aload_n hx hb dX13_bounded_33 rfl (lv_at hl 0 rfl) ?_
      refine t_get (C := RX13) (T := TX13) (N := 37) X hT m0 g0 rfl rfl 9 (by decide) qw_478 inlX13 rfl dX13_bounded_34 (fun v26000 hv26000 ov26000 => ?_)
      obtain rfl : v26000 = .int soz25999 := hv26000.symm.trans qsoz25999
      refine lv_iconst (v := 5) hx hb dX13_bounded_37 (by decide) ?_
      refine lv_icmp_ne (tgt := 45) hx hb dX13_bounded_38 (by decide) (fun c26001 => ?_) (fun c26001 => ?_)
      · have w26002 := cv_ne (rfl : soz25999.toInt = soz25999.toInt) (by decide : (5 : Int32).toInt = 5) c26001
        exfalso
        omega
      · have w26003 := cv_eq (rfl : soz25999.toInt = soz25999.toInt) (by decide : (5 : Int32).toInt = 5) c26001
        refine lv_iload_n hx hb dX13_bounded_41 rfl (lv_at hl 1 rfl) ?_
        refine lv_goto (tgt := 49) hx hb dX13_bounded_42 (by decide) ?_
        exact t_iret hQ X hT (⟨(by omega), hfr, ⟨soz25999, spz25999, faz25999, qsoz25999, qspz25999, qfaz25999, (by omega), (by omega), (by omega), hstk, hspt, hkf⟩⟩) (Nat.le_of_ble_eq_true rfl) (Nat.le_of_ble_eq_true rfl) dX13_bounded_49
  · have w26004 := cv_ne (rfl : x3.toInt = x3.toInt) (by decide : (3 : Int32).toInt = 3) c25985
    refine lv_aload_n hx hb dX13_bounded_8 rfl (lv_at hl 0 rfl) ?_
    refine lv_iconst (v := 1) hx hb dX13_bounded_9 (by decide) ?_
    refine t_cVv (n := 1) (C := RX13) (T := TX13) (N := 37) (As := [.int 1]) (rest := []) X hT (km10_X13_flaw l G tag L F hT.2.2.2 p0 1 x0 x1 x2 x3 x4 x5 m0 g0 (by decide) mx0 gx0 pf0 mx1 gx1 pf1 mx2 gx2 pf2 (by omega) pf3 (by omega) pf4 (by omega) pf5 hkf) m0 g0 rfl rfl qw_548 qw_549 qw_550 qw_5 qw_551 ⟨rfl, by decide +kernel, by decide +kernel, by decide +kernel⟩ ⟨Nat.le_of_ble_eq_true rfl, Nat.le_of_ble_eq_true rfl⟩ hl rfl rfl (Nat.le_of_ble_eq_true rfl) dX13_bounded_10 ⟨Nat.le_of_ble_eq_true rfl, Nat.le_of_ble_eq_true rfl⟩ (fun F H locs hT hz26005 => ?_)
    obtain ⟨yz26005, ⟨soz26005, spz26005, faz26005, qsoz26005, qspz26005, qfaz26005, rsoz26005, rspz26005, rfaz26005, stz26005, ptz26005, hkf, pxz26005_0⟩⟩ := hz26005
    have pf0 := (yz26005.1 _ 4 (Or.inr (by decide)) (Or.inr (by decide)) (Or.inr (by decide))).trans pf0
    have pf1 := (yz26005.1 _ 28 (Or.inr (by decide)) (Or.inr (by decide)) (Or.inr (by decide))).trans pf1
    have pf2 := (yz26005.1 _ 29 (Or.inr (by decide)) (Or.inr (by decide)) (Or.inr (by decide))).trans pf2
    have pf4 := (yz26005.1 _ 8 (Or.inr (by decide)) (Or.inr (by decide)) (Or.inr (by decide))).trans pf4
    have hfr : (∀ b j : Nat, (tag b ≠ 46 ∨ j ≠ 9) → (tag b ≠ 46 ∨ j ≠ 13) → (tag b ≠ 46 ∨ j ≠ 14) → fld F b j = fld Fo b j) ∧ (∀ b j : Nat, elm F b j = elm Fo b j) := ⟨fun b j n46_9 n46_13 n46_14 => (yz26005.1 b j n46_9 n46_13 n46_14).trans (hfr.1 b j n46_9 n46_13 n46_14), fun b j  => (yz26005.2 b j ).trans (hfr.2 b j )⟩
    have hstk := STK.tr hstk stz26005
    have hspt := SPT.tr hspt ptz26005
    refine lv_goto (tgt := 33) hx hb dX13_bounded_13 (by decide) ?_
    refine lv_aload_n hx hb dX13_bounded_33 rfl (lv_at hl 0 rfl) ?_
    refine t_get (C := RX13) (T := TX13) (N := 37) X hT m0 g0 rfl rfl 9 (by decide) qw_478 inlX13 rfl dX13_bounded_34 (fun v26006 hv26006 ov26006 => ?_)
    obtain rfl : v26006 = .int soz26005 := hv26006.symm.trans qsoz26005
    refine lv_iconst (v := 5) hx hb dX13_bounded_37 (by decide) ?_
    refine lv_icmp_ne (tgt := 45) hx hb dX13_bounded_38 (by decide) (fun c26007 => ?_) (fun c26007 => ?_)
    · have w26008 := cv_ne (rfl : soz26005.toInt = soz26005.toInt) (by decide : (5 : Int32).toInt = 5) c26007
      exfalso
      omega
    · have w26009 := cv_eq (rfl : soz26005.toInt = soz26005.toInt) (by decide : (5 : Int32).toInt = 5) c26007
      refine lv_iload_n hx hb dX13_bounded_41 rfl (lv_at hl 1 rfl) ?_
      refine lv_goto (tgt := 49) hx hb dX13_bounded_42 (by decide) ?_
      exact t_iret hQ X hT (⟨(by omega), hfr, ⟨soz26005, spz26005, faz26005, qsoz26005, qspz26005, qfaz26005, (by omega), (by omega), (by omega), hstk, hspt, hkf⟩⟩) (Nat.le_of_ble_eq_true rfl) (Nat.le_of_ble_eq_true rfl) dX13_bounded_49
set_option maxHeartbeats 4000000 in
set_option maxRecDepth 100000 in
theorem km77_X13_readWhole (l : Launch) (G : KG) (tag : Nat → Nat) (L : List Nat) (Fo : Nat → va_E) (ho : okT G ttC tag L Fo) (p0 : Nat) (p1 : Int32) (p2 : Int32) (x0 : Nat) (x1 : Nat) (x2 : Nat) (x3 : Int32) (x4 : Int32) (x5 : Int32) (m0 : p0 ∈ L) (g0 : tag p0 = 46) (h1 : 3 ≤ p1.toInt ∧ p1.toInt ≤ 3) (h2 : 12 ≤ p2.toInt ∧ p2.toInt ≤ 12) (mx0 : x0 ∈ L) (gx0 : tag x0 = 44) (pf0 : fld Fo p0 4 = .ref x0) (mx1 : x1 ∈ L) (gx1 : tag x1 = 35) (pf1 : fld Fo x0 28 = .ref x1) (mx2 : x2 ∈ L) (gx2 : tag x2 = 36) (pf2 : fld Fo x0 29 = .ref x2) (hx3 : 0 ≤ x3.toInt ∧ x3.toInt ≤ 5) (pf3 : fld Fo p0 9 = .int x3) (hx4 : 0 ≤ x4.toInt ∧ x4.toInt ≤ 1000) (pf4 : fld Fo p0 8 = .int x4) (hx5 : 0 ≤ x5.toInt ∧ x5.toInt ≤ 7) (pf5 : fld Fo p0 13 = .int x5) (hkf : KF x3 x5) : TMi l yX13_readWhole cX13_readWhole 4 (some .int) { frames := 2, cells := 0, slots := 0, locals := 44 } G ttC tag L Fo [.ref p0, .int p1, .int p2] (fun r F1 => (3 ≤ r.toInt ∧ r.toInt ≤ 12) ∧ ((∀ b j : Nat, (tag b ≠ 46 ∨ j ≠ 8) → (tag b ≠ 46 ∨ j ≠ 9) → (tag b ≠ 46 ∨ j ≠ 10) → (tag b ≠ 46 ∨ j ≠ 11) → (tag b ≠ 46 ∨ j ≠ 12) → (tag b ≠ 46 ∨ j ≠ 13) → (tag b ≠ 46 ∨ j ≠ 14) → (tag b ≠ 46 ∨ j ≠ 15) → fld F1 b j = fld Fo b j) ∧ (∀ b j : Nat, elm F1 b j = elm Fo b j)) ∧ (∃ so sp fa : Int32, fld F1 p0 9 = .int so ∧ fld F1 p0 8 = .int sp ∧ fld F1 p0 13 = .int fa ∧ (0 ≤ so.toInt ∧ so.toInt ≤ 5) ∧ (0 ≤ sp.toInt ∧ sp.toInt ≤ 1000) ∧ (0 ≤ fa.toInt ∧ fa.toInt ≤ 7) ∧ STK x3 so ∧ SPT x3 x4 so sp ∧ KF so fa)) := by
  refine t_bodyi (y := yX13_readWhole) (cd := cX13_readWhole) (mL := 4) (rt := (some .int)) (rm := { frames := 2, cells := 0, slots := 0, locals := 44 }) (av := [.ref p0, .int p1, .int p2]) (by decide) (Nat.le_of_ble_eq_true rfl) ho ?_
  intro p e s m args below meth c ls A Q hQ X hT hl
  have hx := X.1.1
  have hb := X.1.2.1
  have hl : lv_has ls 4 [(0, .ref p0), (1, .int p1), (2, .int p2)] := hl
  obtain ⟨F, hFo⟩ : ∃ F : Nat → va_E, F = Fo := ⟨_, rfl⟩
  rw [← hFo] at hT pf0 pf1 pf2 pf3 pf4 pf5
  have hfr : (∀ b j : Nat, (tag b ≠ 46 ∨ j ≠ 8) → (tag b ≠ 46 ∨ j ≠ 9) → (tag b ≠ 46 ∨ j ≠ 10) → (tag b ≠ 46 ∨ j ≠ 11) → (tag b ≠ 46 ∨ j ≠ 12) → (tag b ≠ 46 ∨ j ≠ 13) → (tag b ≠ 46 ∨ j ≠ 14) → (tag b ≠ 46 ∨ j ≠ 15) → fld F b j = fld Fo b j) ∧ (∀ b j : Nat, elm F b j = elm Fo b j) := by
    rw [hFo]
    exact ⟨by intros; rfl, by intros; rfl⟩
  have hstk : STK x3 x3 := STK.rf
  have hspt : SPT x3 x4 x3 x4 := SPT.rf
  refine lv_aload_n hx hb dX13_readWhole_0 rfl (lv_at hl 0 rfl) ?_
  refine lv_iload_n hx hb dX13_readWhole_1 rfl (lv_at hl 1 rfl) ?_
  refine lv_iload_n hx hb dX13_readWhole_2 rfl (lv_at hl 2 rfl) ?_
  refine t_cVi (n := 2) (C := RX13) (T := TX13) (N := 37) (As := [.int p1, .int p2]) (rest := []) X hT (km76_X13_bounded l G tag L F hT.2.2.2 p0 p1 p2 x0 x1 x2 x3 x4 x5 m0 g0 (by omega) (by omega) mx0 gx0 pf0 mx1 gx1 pf1 mx2 gx2 pf2 (by omega) pf3 (by omega) pf4 (by omega) pf5 hkf) m0 g0 rfl rfl qw_564 qw_565 qw_566 qw_5 qw_567 ⟨rfl, by decide +kernel, by decide +kernel, by decide +kernel⟩ ⟨Nat.le_of_ble_eq_true rfl, Nat.le_of_ble_eq_true rfl⟩ hl rfl rfl (Nat.le_of_ble_eq_true rfl) dX13_readWhole_3 ⟨Nat.le_of_ble_eq_true rfl, Nat.le_of_ble_eq_true rfl⟩ (fun z26032 F H locs hT hz26032 => ?_)
  obtain ⟨hz26032, yz26032, ⟨soz26032, spz26032, faz26032, qsoz26032, qspz26032, qfaz26032, rsoz26032, rspz26032, rfaz26032, stz26032, ptz26032, hkf⟩⟩ := hz26032
  have pf0 := (yz26032.1 _ 4 (Or.inr (by decide)) (Or.inr (by decide)) (Or.inr (by decide))).trans pf0
  have pf1 := (yz26032.1 _ 28 (Or.inr (by decide)) (Or.inr (by decide)) (Or.inr (by decide))).trans pf1
  have pf2 := (yz26032.1 _ 29 (Or.inr (by decide)) (Or.inr (by decide)) (Or.inr (by decide))).trans pf2
  have pf4 := (yz26032.1 _ 8 (Or.inr (by decide)) (Or.inr (by decide)) (Or.inr (by decide))).trans pf4
  have hfr : (∀ b j : Nat, (tag b ≠ 46 ∨ j ≠ 8) → (tag b ≠ 46 ∨ j ≠ 9) → (tag b ≠ 46 ∨ j ≠ 10) → (tag b ≠ 46 ∨ j ≠ 11) → (tag b ≠ 46 ∨ j ≠ 12) → (tag b ≠ 46 ∨ j ≠ 13) → (tag b ≠ 46 ∨ j ≠ 14) → (tag b ≠ 46 ∨ j ≠ 15) → fld F b j = fld Fo b j) ∧ (∀ b j : Nat, elm F b j = elm Fo b j) := ⟨fun b j n46_8 n46_9 n46_10 n46_11 n46_12 n46_13 n46_14 n46_15 => (yz26032.1 b j n46_9 n46_13 n46_14).trans (hfr.1 b j n46_8 n46_9 n46_10 n46_11 n46_12 n46_13 n46_14 n46_15), fun b j  => (yz26032.2 b j ).trans (hfr.2 b j )⟩
  have hstk := STK.tr hstk stz26032
  have hspt := SPT.tr hspt ptz26032
  refine lv_istore_n (lv' := [(3, .int z26032), (0, .ref p0), (1, .int p1), (2, .int p2)]) hx hb dX13_readWhole_6 rfl hl (by decide) rfl (fun ls hl => ?_)
  refine lv_aload_n hx hb dX13_readWhole_7 rfl (lv_at hl 1 rfl) ?_
  refine t_cVv (n := 0) (C := RX13) (T := TX13) (N := 37) (As := []) (rest := []) X hT (km14_X13_goesOn l G tag L F hT.2.2.2 p0 x0 x1 x2 soz26032 spz26032 faz26032 m0 g0 mx0 gx0 pf0 mx1 gx1 pf1 mx2 gx2 pf2 (by omega) qsoz26032 (by omega) qspz26032 (by omega) qfaz26032 hkf) m0 g0 rfl rfl qw_508 qw_509 qw_510 qw_5 qw_511 ⟨rfl, by decide +kernel, by decide +kernel, by decide +kernel⟩ ⟨Nat.le_of_ble_eq_true rfl, Nat.le_of_ble_eq_true rfl⟩ hl rfl rfl (Nat.le_of_ble_eq_true rfl) dX13_readWhole_8 ⟨Nat.le_of_ble_eq_true rfl, Nat.le_of_ble_eq_true rfl⟩ (fun F H locs hT hz26033 => ?_)
  obtain ⟨yz26033, ⟨soz26033, spz26033, faz26033, qsoz26033, qspz26033, qfaz26033, rsoz26033, rspz26033, rfaz26033, stz26033, ptz26033, hkf⟩⟩ := hz26033
  have pf0 := (yz26033.1 _ 4 (Or.inr (by decide)) (Or.inr (by decide)) (Or.inr (by decide)) (Or.inr (by decide)) (Or.inr (by decide)) (Or.inr (by decide))).trans pf0
  have pf1 := (yz26033.1 _ 28 (Or.inr (by decide)) (Or.inr (by decide)) (Or.inr (by decide)) (Or.inr (by decide)) (Or.inr (by decide)) (Or.inr (by decide))).trans pf1
  have pf2 := (yz26033.1 _ 29 (Or.inr (by decide)) (Or.inr (by decide)) (Or.inr (by decide)) (Or.inr (by decide)) (Or.inr (by decide)) (Or.inr (by decide))).trans pf2
  have qfaz26032 := (yz26033.1 _ 13 (Or.inr (by decide)) (Or.inr (by decide)) (Or.inr (by decide)) (Or.inr (by decide)) (Or.inr (by decide)) (Or.inr (by decide))).trans qfaz26032
  have hfr : (∀ b j : Nat, (tag b ≠ 46 ∨ j ≠ 8) → (tag b ≠ 46 ∨ j ≠ 9) → (tag b ≠ 46 ∨ j ≠ 10) → (tag b ≠ 46 ∨ j ≠ 11) → (tag b ≠ 46 ∨ j ≠ 12) → (tag b ≠ 46 ∨ j ≠ 13) → (tag b ≠ 46 ∨ j ≠ 14) → (tag b ≠ 46 ∨ j ≠ 15) → fld F b j = fld Fo b j) ∧ (∀ b j : Nat, elm F b j = elm Fo b j) := ⟨fun b j n46_8 n46_9 n46_10 n46_11 n46_12 n46_13 n46_14 n46_15 => (yz26033.1 b j n46_8 n46_9 n46_10 n46_11 n46_12 n46_15).trans (hfr.1 b j n46_8 n46_9 n46_10 n46_11 n46_12 n46_13 n46_14 n46_15), fun b j  => (yz26033.2 b j ).trans (hfr.2 b j )⟩
  have hstk := STK.tr hstk stz26033
  have hspt := SPT.tr hspt ptz26033
  refine lv_iload_n hx hb dX13_readWhole_11 rfl (lv_at hl 0 rfl) ?_
  exact t_iret hQ X hT (⟨(by omega), hfr, ⟨soz26033, spz26033, faz26033, qsoz26033, qspz26033, qfaz26033, (by omega), (by omega), (by omega), hstk, hspt, hkf⟩⟩) (Nat.le_of_ble_eq_true rfl) (Nat.le_of_ble_eq_true rfl) dX13_readWhole_12
