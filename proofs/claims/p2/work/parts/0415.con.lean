set_option maxHeartbeats 4000000 in
set_option maxRecDepth 100000 in
theorem km78_X13_readPart (l : Launch) (G : KG) (tag : Nat → Nat) (L : List Nat) (Fo : Nat → va_E) (ho : okT G ttC tag L Fo) (p0 : Nat) (p1 : Nat) (p2 : Int32) (p3 : Int32) (x0 : Nat) (x1 : Nat) (x2 : Nat) (x3 : Int32) (x4 : Int32) (x5 : Int32) (m0 : p0 ∈ L) (g0 : tag p0 = 46) (h1 : p1 < 77) (h2 : 3 ≤ p2.toInt ∧ p2.toInt ≤ 3) (h3 : 12 ≤ p3.toInt ∧ p3.toInt ≤ 12) (mx0 : x0 ∈ L) (gx0 : tag x0 = 44) (pf0 : fld Fo p0 4 = .ref x0) (mx1 : x1 ∈ L) (gx1 : tag x1 = 35) (pf1 : fld Fo x0 28 = .ref x1) (mx2 : x2 ∈ L) (gx2 : tag x2 = 36) (pf2 : fld Fo x0 29 = .ref x2) (hx3 : 0 ≤ x3.toInt ∧ x3.toInt ≤ 5) (pf3 : fld Fo p0 9 = .int x3) (hx4 : 0 ≤ x4.toInt ∧ x4.toInt ≤ 1000) (pf4 : fld Fo p0 8 = .int x4) (hx5 : 0 ≤ x5.toInt ∧ x5.toInt ≤ 7) (pf5 : fld Fo p0 13 = .int x5) (hkf : KF x3 x5) : TMi l yX13_readPart cX13_readPart 4 (some .int) { frames := 7, cells := 0, slots := 0, locals := 150 } G ttC tag L Fo [.ref p0, .ref (G.2 (100 + p1)), .int p2, .int p3] (fun r F1 => (3 ≤ r.toInt ∧ r.toInt ≤ 12) ∧ ((∀ b j : Nat, (tag b ≠ 46 ∨ j ≠ 8) → (tag b ≠ 46 ∨ j ≠ 9) → (tag b ≠ 46 ∨ j ≠ 10) → (tag b ≠ 46 ∨ j ≠ 11) → (tag b ≠ 46 ∨ j ≠ 12) → (tag b ≠ 46 ∨ j ≠ 13) → (tag b ≠ 46 ∨ j ≠ 14) → (tag b ≠ 46 ∨ j ≠ 15) → fld F1 b j = fld Fo b j) ∧ (∀ b j : Nat, elm F1 b j = elm Fo b j)) ∧ (∃ so sp fa : Int32, fld F1 p0 9 = .int so ∧ fld F1 p0 8 = .int sp ∧ fld F1 p0 13 = .int fa ∧ (0 ≤ so.toInt ∧ so.toInt ≤ 5) ∧ (0 ≤ sp.toInt ∧ sp.toInt ≤ 1000) ∧ (0 ≤ fa.toInt ∧ fa.toInt ≤ 7) ∧ STK x3 so ∧ SPT x3 x4 so sp ∧ KF so fa)) := by
  refine t_bodyi (y := yX13_readPart) (cd := cX13_readPart) (mL := 4) (rt := (some .int)) (rm := { frames := 7, cells := 0, slots := 0, locals := 150 }) (av := [.ref p0, .ref (G.2 (100 + p1)), .int p2, .int p3]) (by decide) (Nat.le_of_ble_eq_true rfl) ho ?_
  intro p e s m args below meth c ls A Q hQ X hT hl
  have hx := X.1.1
  have hb := X.1.2.1
  have hl : lv_has ls 4 [(0, .ref p0), (1, .ref (G.2 (100 + p1))), (2, .int p2), (3, .int p3)] := hl
  obtain ⟨F, hFo⟩ : ∃ F : Nat → va_E, F = Fo := ⟨_, rfl⟩
  rw [← hFo] at hT pf0 pf1 pf2 pf3 pf4 pf5
  have hfr : (∀ b j : Nat, (tag b ≠ 46 ∨ j ≠ 8) → (tag b ≠ 46 ∨ j ≠ 9) → (tag b ≠ 46 ∨ j ≠ 10) → (tag b ≠ 46 ∨ j ≠ 11) → (tag b ≠ 46 ∨ j ≠ 12) → (tag b ≠ 46 ∨ j ≠ 13) → (tag b ≠ 46 ∨ j ≠ 14) → (tag b ≠ 46 ∨ j ≠ 15) → fld F b j = fld Fo b j) ∧ (∀ b j : Nat, elm F b j = elm Fo b j) := by
    rw [hFo]
    exact ⟨by intros; rfl, by intros; rfl⟩
  have hstk : STK x3 x3 := STK.rf
  have hspt : SPT x3 x4 x3 x4 := SPT.rf
  refine lv_aload_n hx hb dX13_readPart_0 rfl (lv_at hl 0 rfl) ?_
  refine lv_aload_n hx hb dX13_readPart_1 rfl (lv_at hl 1 rfl) ?_
  refine t_cVv (n := 1) (C := RX13) (T := TX13) (N := 37) (As := [.ref (G.2 (100 + p1))]) (rest := []) X hT (km40_X13_needs l G tag L F hT.2.2.2 p0 p1 x0 x1 x2 x3 x4 x5 m0 g0 h1 mx0 gx0 pf0 mx1 gx1 pf1 mx2 gx2 pf2 (by omega) pf3 (by omega) pf4 (by omega) pf5 hkf) m0 g0 rfl rfl qw_556 qw_557 qw_558 qw_5 qw_559 ⟨rfl, by decide +kernel, by decide +kernel, by decide +kernel⟩ ⟨Nat.le_of_ble_eq_true rfl, Nat.le_of_ble_eq_true rfl⟩ hl rfl rfl (Nat.le_of_ble_eq_true rfl) dX13_readPart_2 ⟨Nat.le_of_ble_eq_true rfl, Nat.le_of_ble_eq_true rfl⟩ (fun F H locs hT hz25878 => ?_)
  obtain ⟨yz25878, ⟨soz25878, spz25878, faz25878, qsoz25878, qspz25878, qfaz25878, rsoz25878, rspz25878, rfaz25878, stz25878, ptz25878, hkf⟩⟩ := hz25878
  have pf0 := (yz25878.1 _ 4 (Or.inr (by decide)) (Or.inr (by decide)) (Or.inr (by decide)) (Or.inr (by decide)) (Or.inr (by decide)) (Or.inr (by decide)) (Or.inr (by decide)) (Or.inr (by decide))).trans pf0
  have pf1 := (yz25878.1 _ 28 (Or.inr (by decide)) (Or.inr (by decide)) (Or.inr (by decide)) (Or.inr (by decide)) (Or.inr (by decide)) (Or.inr (by decide)) (Or.inr (by decide)) (Or.inr (by decide))).trans pf1
  have pf2 := (yz25878.1 _ 29 (Or.inr (by decide)) (Or.inr (by decide)) (Or.inr (by decide)) (Or.inr (by decide)) (Or.inr (by decide)) (Or.inr (by decide)) (Or.inr (by decide)) (Or.inr (by decide))).trans pf2
  have hfr : (∀ b j : Nat, (tag b ≠ 46 ∨ j ≠ 8) → (tag b ≠ 46 ∨ j ≠ 9) → (tag b ≠ 46 ∨ j ≠ 10) → (tag b ≠ 46 ∨ j ≠ 11) → (tag b ≠ 46 ∨ j ≠ 12) → (tag b ≠ 46 ∨ j ≠ 13) → (tag b ≠ 46 ∨ j ≠ 14) → (tag b ≠ 46 ∨ j ≠ 15) → fld F b j = fld Fo b j) ∧ (∀ b j : Nat, elm F b j = elm Fo b j) := ⟨fun b j n46_8 n46_9 n46_10 n46_11 n46_12 n46_13 n46_14 n46_15 => (yz25878.1 b j n46_8 n46_9 n46_10 n46_11 n46_12 n46_13 n46_14 n46_15).trans (hfr.1 b j n46_8 n46_9 n46_10 n46_11 n46_12 n46_13 n46_14 n46_15), fun b j  => (yz25878.2 b j ).trans (hfr.2 b j )⟩
  have hstk := STK.tr hstk stz25878
  have hspt := SPT.tr hspt ptz25878
  refine lv_aload_n hx hb dX13_readPart_5 rfl (lv_at hl 0 rfl) ?_
  refine lv_iload_n hx hb dX13_readPart_6 rfl (lv_at hl 2 rfl) ?_
  refine lv_iload_n hx hb dX13_readPart_7 rfl (lv_at hl 3 rfl) ?_
  refine t_cVi (n := 2) (C := RX13) (T := TX13) (N := 37) (As := [.int p2, .int p3]) (rest := []) X hT (km77_X13_readWhole l G tag L F hT.2.2.2 p0 p2 p3 x0 x1 x2 soz25878 spz25878 faz25878 m0 g0 (by omega) (by omega) mx0 gx0 pf0 mx1 gx1 pf1 mx2 gx2 pf2 (by omega) qsoz25878 (by omega) qspz25878 (by omega) qfaz25878 hkf) m0 g0 rfl rfl qw_560 qw_561 qw_562 qw_5 qw_563 ⟨rfl, by decide +kernel, by decide +kernel, by decide +kernel⟩ ⟨Nat.le_of_ble_eq_true rfl, Nat.le_of_ble_eq_true rfl⟩ hl rfl rfl (Nat.le_of_ble_eq_true rfl) dX13_readPart_8 ⟨Nat.le_of_ble_eq_true rfl, Nat.le_of_ble_eq_true rfl⟩ (fun z25879 F H locs hT hz25879 => ?_)
  obtain ⟨hz25879, yz25879, ⟨soz25879, spz25879, faz25879, qsoz25879, qspz25879, qfaz25879, rsoz25879, rspz25879, rfaz25879, stz25879, ptz25879, hkf⟩⟩ := hz25879
  have pf0 := (yz25879.1 _ 4 (Or.inr (by decide)) (Or.inr (by decide)) (Or.inr (by decide)) (Or.inr (by decide)) (Or.inr (by decide)) (Or.inr (by decide)) (Or.inr (by decide)) (Or.inr (by decide))).trans pf0
  have pf1 := (yz25879.1 _ 28 (Or.inr (by decide)) (Or.inr (by decide)) (Or.inr (by decide)) (Or.inr (by decide)) (Or.inr (by decide)) (Or.inr (by decide)) (Or.inr (by decide)) (Or.inr (by decide))).trans pf1
  have pf2 := (yz25879.1 _ 29 (Or.inr (by decide)) (Or.inr (by decide)) (Or.inr (by decide)) (Or.inr (by decide)) (Or.inr (by decide)) (Or.inr (by decide)) (Or.inr (by decide)) (Or.inr (by decide))).trans pf2
  have hfr : (∀ b j : Nat, (tag b ≠ 46 ∨ j ≠ 8) → (tag b ≠ 46 ∨ j ≠ 9) → (tag b ≠ 46 ∨ j ≠ 10) → (tag b ≠ 46 ∨ j ≠ 11) → (tag b ≠ 46 ∨ j ≠ 12) → (tag b ≠ 46 ∨ j ≠ 13) → (tag b ≠ 46 ∨ j ≠ 14) → (tag b ≠ 46 ∨ j ≠ 15) → fld F b j = fld Fo b j) ∧ (∀ b j : Nat, elm F b j = elm Fo b j) := ⟨fun b j n46_8 n46_9 n46_10 n46_11 n46_12 n46_13 n46_14 n46_15 => (yz25879.1 b j n46_8 n46_9 n46_10 n46_11 n46_12 n46_13 n46_14 n46_15).trans (hfr.1 b j n46_8 n46_9 n46_10 n46_11 n46_12 n46_13 n46_14 n46_15), fun b j  => (yz25879.2 b j ).trans (hfr.2 b j )⟩
  have hstk := STK.tr hstk stz25879
  have hspt := SPT.tr hspt ptz25879
  exact t_iret hQ X hT (⟨(by omega), hfr, ⟨soz25879, spz25879, faz25879, qsoz25879, qspz25879, qfaz25879, (by omega), (by omega), (by omega), hstk, hspt, hkf⟩⟩) (Nat.le_of_ble_eq_true rfl) (Nat.le_of_ble_eq_true rfl) dX13_readPart_11
set_option maxHeartbeats 4000000 in
set_option maxRecDepth 100000 in
theorem km79_X13_readLand (l : Launch) (G : KG) (tag : Nat → Nat) (L : List Nat) (Fo : Nat → va_E) (ho : okT G ttC tag L Fo) (p0 : Nat) (x0 : Nat) (x1 : Nat) (x2 : Nat) (x3 : Int32) (x4 : Int32) (x5 : Int32) (x6 : Int32) (x7 : Int32) (x8 : Int32) (x9 : Int32) (x10 : Int32) (x11 : Int32) (m0 : p0 ∈ L) (g0 : tag p0 = 46) (mx0 : x0 ∈ L) (gx0 : tag x0 = 44) (pf0 : fld Fo p0 4 = .ref x0) (mx1 : x1 ∈ L) (gx1 : tag x1 = 35) (pf1 : fld Fo x0 28 = .ref x1) (mx2 : x2 ∈ L) (gx2 : tag x2 = 36) (pf2 : fld Fo x0 29 = .ref x2) (hx3 : 0 ≤ x3.toInt ∧ x3.toInt ≤ 5) (pf3 : fld Fo p0 9 = .int x3) (hx4 : 0 ≤ x4.toInt ∧ x4.toInt ≤ 1000) (pf4 : fld Fo p0 8 = .int x4) (hx5 : 0 ≤ x5.toInt ∧ x5.toInt ≤ 7) (pf5 : fld Fo p0 13 = .int x5) (hx6 : 0 ≤ x6.toInt ∧ x6.toInt ≤ 32) (pf6 : fld Fo x0 12 = .int x6) (hx7 : 0 ≤ x7.toInt ∧ x7.toInt ≤ 4) (pf7 : fld Fo x0 7 = .int x7) (hx8 : 0 ≤ x8.toInt ∧ x8.toInt ≤ 4) (pf8 : fld Fo x0 8 = .int x8) (hx9 : 0 ≤ x9.toInt ∧ x9.toInt ≤ 6) (pf9 : fld Fo x0 9 = .int x9) (hx10 : 0 ≤ x10.toInt ∧ x10.toInt ≤ 6) (pf10 : fld Fo x0 10 = .int x10) (hx11 : 0 ≤ x11.toInt ∧ x11.toInt ≤ 12) (pf11 : fld Fo x0 0 = .int x11) (hkf : KF x3 x5) (hpl : PLr x6 x7 x8 x9 x10 x11) : TMv l yX13_readLand cX13_readLand 5 { frames := 8, cells := 0, slots := 0, locals := 173 } G ttC tag L Fo [.ref p0] (fun F1 => ((∀ b j : Nat, (tag b ≠ 44 ∨ j ≠ 0) → (tag b ≠ 44 ∨ j ≠ 1) → (tag b ≠ 44 ∨ j ≠ 13) → (tag b ≠ 44 ∨ j ≠ 14) → (tag b ≠ 46 ∨ j ≠ 8) → (tag b ≠ 46 ∨ j ≠ 9) → (tag b ≠ 46 ∨ j ≠ 10) → (tag b ≠ 46 ∨ j ≠ 11) → (tag b ≠ 46 ∨ j ≠ 12) → (tag b ≠ 46 ∨ j ≠ 13) → (tag b ≠ 46 ∨ j ≠ 14) → (tag b ≠ 46 ∨ j ≠ 15) → fld F1 b j = fld Fo b j) ∧ (∀ b j : Nat, elm F1 b j = elm Fo b j)) ∧ (∃ so sp fa : Int32, fld F1 p0 9 = .int so ∧ fld F1 p0 8 = .int sp ∧ fld F1 p0 13 = .int fa ∧ (0 ≤ so.toInt ∧ so.toInt ≤ 5) ∧ (0 ≤ sp.toInt ∧ sp.toInt ≤ 1000) ∧ (0 ≤ fa.toInt ∧ fa.toInt ≤ 7) ∧ STK x3 so ∧ SPT x3 x4 so sp ∧ KF so fa) ∧ (∃ na st ho he wa wi : Int32, fld F1 x0 12 = .int na ∧ fld F1 x0 7 = .int st ∧ fld F1 x0 8 = .int ho ∧ fld F1 x0 9 = .int he ∧ fld F1 x0 10 = .int wa ∧ fld F1 x0 0 = .int wi ∧ (0 ≤ na.toInt ∧ na.toInt ≤ 32) ∧ (0 ≤ st.toInt ∧ st.toInt ≤ 4) ∧ (0 ≤ ho.toInt ∧ ho.toInt ≤ 4) ∧ (0 ≤ he.toInt ∧ he.toInt ≤ 6) ∧ (0 ≤ wa.toInt ∧ wa.toInt ≤ 6) ∧ (0 ≤ wi.toInt ∧ wi.toInt ≤ 12) ∧ PLr na st ho he wa wi)) := by
  refine t_bodyv (y := yX13_readLand) (cd := cX13_readLand) (mL := 5) (rm := { frames := 8, cells := 0, slots := 0, locals := 173 }) (av := [.ref p0]) (by decide) (Nat.le_of_ble_eq_true rfl) ho ?_
  intro p e s m args below meth c ls A Q hQ X hT hl
  have hx := X.1.1
  have hb := X.1.2.1
  have hl : lv_has ls 5 [(0, .ref p0)] := hl
  obtain ⟨F, hFo⟩ : ∃ F : Nat → va_E, F = Fo := ⟨_, rfl⟩
  rw [← hFo] at hT pf0 pf1 pf2 pf3 pf4 pf5 pf6 pf7 pf8 pf9 pf10 pf11
  have hfr : (∀ b j : Nat, (tag b ≠ 44 ∨ j ≠ 0) → (tag b ≠ 44 ∨ j ≠ 1) → (tag b ≠ 44 ∨ j ≠ 13) → (tag b ≠ 44 ∨ j ≠ 14) → (tag b ≠ 46 ∨ j ≠ 8) → (tag b ≠ 46 ∨ j ≠ 9) → (tag b ≠ 46 ∨ j ≠ 10) → (tag b ≠ 46 ∨ j ≠ 11) → (tag b ≠ 46 ∨ j ≠ 12) → (tag b ≠ 46 ∨ j ≠ 13) → (tag b ≠ 46 ∨ j ≠ 14) → (tag b ≠ 46 ∨ j ≠ 15) → fld F b j = fld Fo b j) ∧ (∀ b j : Nat, elm F b j = elm Fo b j) := by
    rw [hFo]
    exact ⟨by intros; rfl, by intros; rfl⟩
  have hstk : STK x3 x3 := STK.rf
  have hspt : SPT x3 x4 x3 x4 := SPT.rf
  have hpu := hpl
  unfold PLr at hpu
  have K115 : ∀ (z26383 : Int32) (z26384 : Int32) (z26385 : Int32) (z26386 : Int32) (z26387 : Int32) (z26388 : Int32) (z26389 : Int32) (z26390 : Int32) (z26391 : Int32) (z26392 : Int32) (z26393 : Int32) (z26394 : Int32) (z26395 : Int32) (F : Nat → va_E) (H : Heap) (locs : List Loc) (ls : Array Slot), (3 ≤ z26383.toInt ∧ z26383.toInt ≤ 12) → (3 ≤ z26384.toInt ∧ z26384.toInt ≤ 12) → (0 ≤ z26385.toInt ∧ z26385.toInt ≤ 1) → (0 ≤ z26386.toInt ∧ z26386.toInt ≤ 1) → (0 ≤ z26387.toInt ∧ z26387.toInt ≤ 32) → (0 ≤ z26388.toInt ∧ z26388.toInt ≤ 4) → (0 ≤ z26389.toInt ∧ z26389.toInt ≤ 4) → (0 ≤ z26390.toInt ∧ z26390.toInt ≤ 6) → (0 ≤ z26391.toInt ∧ z26391.toInt ≤ 6) → (0 ≤ z26392.toInt ∧ z26392.toInt ≤ 12) → (0 ≤ z26393.toInt ∧ z26393.toInt ≤ 5) → (0 ≤ z26394.toInt ∧ z26394.toInt ≤ 1000) → (0 ≤ z26395.toInt ∧ z26395.toInt ≤ 7) → TH G ttC A s tag L F H locs → ((∀ b j : Nat, (tag b ≠ 44 ∨ j ≠ 0) → (tag b ≠ 44 ∨ j ≠ 1) → (tag b ≠ 44 ∨ j ≠ 13) → (tag b ≠ 44 ∨ j ≠ 14) → (tag b ≠ 46 ∨ j ≠ 8) → (tag b ≠ 46 ∨ j ≠ 9) → (tag b ≠ 46 ∨ j ≠ 10) → (tag b ≠ 46 ∨ j ≠ 11) → (tag b ≠ 46 ∨ j ≠ 12) → (tag b ≠ 46 ∨ j ≠ 13) → (tag b ≠ 46 ∨ j ≠ 14) → (tag b ≠ 46 ∨ j ≠ 15) → fld F b j = fld Fo b j) ∧ (∀ b j : Nat, elm F b j = elm Fo b j)) → (fld F p0 4 = .ref x0) → (fld F x0 28 = .ref x1) → (fld F x0 29 = .ref x2) → (fld F x0 12 = .int z26387) → (fld F x0 7 = .int z26388) → (fld F x0 8 = .int z26389) → (fld F x0 9 = .int z26390) → (fld F x0 10 = .int z26391) → (fld F x0 0 = .int z26392) → (fld F p0 9 = .int z26393) → (fld F p0 8 = .int z26394) → (fld F p0 13 = .int z26395) → (STK x3 z26393) → (SPT x3 x4 z26393 z26394) → (KF z26393 z26395) → (PLr z26387 z26388 z26389 z26390 z26391 z26392) → lv_has ls 5 [(0, .ref p0), (1, .int z26383), (2, .int z26384), (3, .int z26385), (4, .int z26386)] → W p l e { frames := 8, cells := 0, slots := 0, locals := 173 } s m args below meth c H locs 0 0 Q (F0 m 115 ls []) := by
    intro z26383 z26384 z26385 z26386 z26387 z26388 z26389 z26390 z26391 z26392 z26393 z26394 z26395 F H locs ls rz26383 rz26384 rz26385 rz26386 rz26387 rz26388 rz26389 rz26390 rz26391 rz26392 rz26393 rz26394 rz26395 hT hfr pf0 pf1 pf2 qz26387 qz26388 qz26389 qz26390 qz26391 qz26392 qz26393 qz26394 qz26395 hstk hspt hkf hpl hl
    refine lv_aload_n hx hb dX13_readLand_115 rfl (lv_at hl 0 rfl) ?_
    refine t_cVv (n := 0) (C := RX13) (T := TX13) (N := 37) (As := []) (rest := []) X hT (km14_X13_goesOn l G tag L F hT.2.2.2 p0 x0 x1 x2 z26393 z26394 z26395 m0 g0 mx0 gx0 pf0 mx1 gx1 pf1 mx2 gx2 pf2 (by omega) qz26393 (by omega) qz26394 (by omega) qz26395 hkf) m0 g0 rfl rfl qw_508 qw_509 qw_510 qw_5 qw_511 ⟨rfl, by decide +kernel, by decide +kernel, by decide +kernel⟩ ⟨Nat.le_of_ble_eq_true rfl, Nat.le_of_ble_eq_true rfl⟩ hl rfl rfl (Nat.le_of_ble_eq_true rfl) dX13_readLand_116 ⟨Nat.le_of_ble_eq_true rfl, Nat.le_of_ble_eq_true rfl⟩ (fun F H locs hT hz26396 => ?_)
    obtain ⟨yz26396, ⟨soz26396, spz26396, faz26396, qsoz26396, qspz26396, qfaz26396, rsoz26396, rspz26396, rfaz26396, stz26396, ptz26396, hkf⟩⟩ := hz26396
    have qz26387 := (yz26396.1 _ 12 (Or.inr (by decide)) (Or.inr (by decide)) (Or.inr (by decide)) (Or.inr (by decide)) (Or.inl (by rw [gx0]; decide)) (Or.inr (by decide))).trans qz26387
    have qz26388 := (yz26396.1 _ 7 (Or.inr (by decide)) (Or.inr (by decide)) (Or.inr (by decide)) (Or.inr (by decide)) (Or.inr (by decide)) (Or.inr (by decide))).trans qz26388
    have qz26389 := (yz26396.1 _ 8 (Or.inl (by rw [gx0]; decide)) (Or.inr (by decide)) (Or.inr (by decide)) (Or.inr (by decide)) (Or.inr (by decide)) (Or.inr (by decide))).trans qz26389
    have qz26390 := (yz26396.1 _ 9 (Or.inr (by decide)) (Or.inl (by rw [gx0]; decide)) (Or.inr (by decide)) (Or.inr (by decide)) (Or.inr (by decide)) (Or.inr (by decide))).trans qz26390
    have qz26391 := (yz26396.1 _ 10 (Or.inr (by decide)) (Or.inr (by decide)) (Or.inl (by rw [gx0]; decide)) (Or.inr (by decide)) (Or.inr (by decide)) (Or.inr (by decide))).trans qz26391
    have qz26392 := (yz26396.1 _ 0 (Or.inr (by decide)) (Or.inr (by decide)) (Or.inr (by decide)) (Or.inr (by decide)) (Or.inr (by decide)) (Or.inr (by decide))).trans qz26392
    have qz26395 := (yz26396.1 _ 13 (Or.inr (by decide)) (Or.inr (by decide)) (Or.inr (by decide)) (Or.inr (by decide)) (Or.inr (by decide)) (Or.inr (by decide))).trans qz26395
    have pf0 := (yz26396.1 _ 4 (Or.inr (by decide)) (Or.inr (by decide)) (Or.inr (by decide)) (Or.inr (by decide)) (Or.inr (by decide)) (Or.inr (by decide))).trans pf0
    have pf1 := (yz26396.1 _ 28 (Or.inr (by decide)) (Or.inr (by decide)) (Or.inr (by decide)) (Or.inr (by decide)) (Or.inr (by decide)) (Or.inr (by decide))).trans pf1
    have pf2 := (yz26396.1 _ 29 (Or.inr (by decide)) (Or.inr (by decide)) (Or.inr (by decide)) (Or.inr (by decide)) (Or.inr (by decide)) (Or.inr (by decide))).trans pf2
    have hfr : (∀ b j : Nat, (tag b ≠ 44 ∨ j ≠ 0) → (tag b ≠ 44 ∨ j ≠ 1) → (tag b ≠ 44 ∨ j ≠ 13) → (tag b ≠ 44 ∨ j ≠ 14) → (tag b ≠ 46 ∨ j ≠ 8) → (tag b ≠ 46 ∨ j ≠ 9) → (tag b ≠ 46 ∨ j ≠ 10) → (tag b ≠ 46 ∨ j ≠ 11) → (tag b ≠ 46 ∨ j ≠ 12) → (tag b ≠ 46 ∨ j ≠ 13) → (tag b ≠ 46 ∨ j ≠ 14) → (tag b ≠ 46 ∨ j ≠ 15) → fld F b j = fld Fo b j) ∧ (∀ b j : Nat, elm F b j = elm Fo b j) := ⟨fun b j n44_0 n44_1 n44_13 n44_14 n46_8 n46_9 n46_10 n46_11 n46_12 n46_13 n46_14 n46_15 => (yz26396.1 b j n46_8 n46_9 n46_10 n46_11 n46_12 n46_15).trans (hfr.1 b j n44_0 n44_1 n44_13 n44_14 n46_8 n46_9 n46_10 n46_11 n46_12 n46_13 n46_14 n46_15), fun b j  => (yz26396.2 b j ).trans (hfr.2 b j )⟩
    have hstk := STK.tr hstk stz26396
    have hspt := SPT.tr hspt ptz26396
    refine lv_aload_n hx hb dX13_readLand_119 rfl (lv_at hl 0 rfl) ?_
    refine t_get (C := RX13) (T := TX13) (N := 37) X hT m0 g0 rfl rfl 9 (by decide) qw_478 inlX13 rfl dX13_readLand_120 (fun v26397 hv26397 ov26397 => ?_)
    obtain rfl : v26397 = .int soz26396 := hv26397.symm.trans qsoz26396
    refine lv_iconst (v := 5) hx hb dX13_readLand_123 (by decide) ?_
    refine lv_icmp_ne (tgt := 128) hx hb dX13_readLand_124 (by decide) (fun c26398 => ?_) (fun c26398 => ?_)
    · have w26399 := cv_ne (rfl : soz26396.toInt = soz26396.toInt) (by decide : (5 : Int32).toInt = 5) c26398
      refine lv_aload_n hx hb dX13_readLand_128 rfl (lv_at hl 0 rfl) ?_
      refine t_get (C := RX13) (T := TX13) (N := 37) X hT m0 g0 rfl rfl 4 (by decide) qw_477 inlX13 rfl dX13_readLand_129 (fun v26400 hv26400 ov26400 => ?_)
      obtain rfl : v26400 = .ref x0 := hv26400.symm.trans pf0
      refine lv_iload_n hx hb dX13_readLand_132 rfl (lv_at hl 1 rfl) ?_
      refine t_putN (C := RX12) (T := TX12) (N := 31) (v := .int z26383) X hT mx0 gx0 rfl tyX12 tyX12_ok nmX12 rfl 0 (by decide) (List.mem_of_getElem? (i := 4) rfl) inlX12 rfl (by first | rfl | decide) (by first | rfl | decide) rfl (⟨_, rfl, (show 0 ≤ (z26383 : Int32).toInt from (by omega)), (show (z26383 : Int32).toInt ≤ 12 from (by omega))⟩) dX13_readLand_133 (fun F H locs hT v26401 h1v26401 h2v26401 => ?_)
      have qz26387 := (h1v26401 _ _ (Or.inr (by decide))).trans qz26387
      have qz26388 := (h1v26401 _ _ (Or.inr (by decide))).trans qz26388
      have qz26389 := (h1v26401 _ _ (Or.inr (by decide))).trans qz26389
      have qz26390 := (h1v26401 _ _ (Or.inr (by decide))).trans qz26390
      have qz26391 := (h1v26401 _ _ (Or.inr (by decide))).trans qz26391
      have qfaz26396 := (h1v26401 _ _ (Or.inr (by decide))).trans qfaz26396
      have pf0 := (h1v26401 _ _ (Or.inr (by decide))).trans pf0
      have pf1 := (h1v26401 _ _ (Or.inr (by decide))).trans pf1
      have pf2 := (h1v26401 _ _ (Or.inr (by decide))).trans pf2
      have qsoz26396 := (h1v26401 _ _ (Or.inr (by decide))).trans qsoz26396
      have qspz26396 := (h1v26401 _ _ (Or.inr (by decide))).trans qspz26396
      have hfr : (∀ b j : Nat, (tag b ≠ 44 ∨ j ≠ 0) → (tag b ≠ 44 ∨ j ≠ 1) → (tag b ≠ 44 ∨ j ≠ 13) → (tag b ≠ 44 ∨ j ≠ 14) → (tag b ≠ 46 ∨ j ≠ 8) → (tag b ≠ 46 ∨ j ≠ 9) → (tag b ≠ 46 ∨ j ≠ 10) → (tag b ≠ 46 ∨ j ≠ 11) → (tag b ≠ 46 ∨ j ≠ 12) → (tag b ≠ 46 ∨ j ≠ 13) → (tag b ≠ 46 ∨ j ≠ 14) → (tag b ≠ 46 ∨ j ≠ 15) → fld F b j = fld Fo b j) ∧ (∀ b j : Nat, elm F b j = elm Fo b j) := ⟨fun b j n44_0 n44_1 n44_13 n44_14 n46_8 n46_9 n46_10 n46_11 n46_12 n46_13 n46_14 n46_15 => (h1v26401 b j (fr_ne gx0 n44_0)).trans (hfr.1 b j n44_0 n44_1 n44_13 n44_14 n46_8 n46_9 n46_10 n46_11 n46_12 n46_13 n46_14 n46_15), fun b j  => (h2v26401 b j).trans (hfr.2 b j )⟩
      refine lv_aload_n hx hb dX13_readLand_136 rfl (lv_at hl 0 rfl) ?_
      refine t_get (C := RX13) (T := TX13) (N := 37) X hT m0 g0 rfl rfl 4 (by decide) qw_477 inlX13 rfl dX13_readLand_137 (fun v26402 hv26402 ov26402 => ?_)
      obtain rfl : v26402 = .ref x0 := hv26402.symm.trans pf0
      refine lv_iload_n hx hb dX13_readLand_140 rfl (lv_at hl 2 rfl) ?_
      refine t_putN (C := RX12) (T := TX12) (N := 31) (v := .int z26384) X hT mx0 gx0 rfl tyX12 tyX12_ok nmX12 rfl 1 (by decide) (List.mem_of_getElem? (i := 5) rfl) inlX12 rfl (by first | rfl | decide) (by first | rfl | decide) rfl (⟨_, rfl, (show 0 ≤ (z26384 : Int32).toInt from (by omega)), (show (z26384 : Int32).toInt ≤ 12 from (by omega))⟩) dX13_readLand_141 (fun F H locs hT v26403 h1v26403 h2v26403 => ?_)
      have qz26387 := (h1v26403 _ _ (Or.inr (by decide))).trans qz26387
      have qz26388 := (h1v26403 _ _ (Or.inr (by decide))).trans qz26388
      have qz26389 := (h1v26403 _ _ (Or.inr (by decide))).trans qz26389
      have qz26390 := (h1v26403 _ _ (Or.inr (by decide))).trans qz26390
      have qz26391 := (h1v26403 _ _ (Or.inr (by decide))).trans qz26391
      have qfaz26396 := (h1v26403 _ _ (Or.inr (by decide))).trans qfaz26396
      have pf0 := (h1v26403 _ _ (Or.inr (by decide))).trans pf0
      have pf1 := (h1v26403 _ _ (Or.inr (by decide))).trans pf1
      have pf2 := (h1v26403 _ _ (Or.inr (by decide))).trans pf2
      have qsoz26396 := (h1v26403 _ _ (Or.inr (by decide))).trans qsoz26396
      have qspz26396 := (h1v26403 _ _ (Or.inr (by decide))).trans qspz26396
      have v26401 := (h1v26403 _ _ (Or.inr (by decide))).trans v26401
      have hfr : (∀ b j : Nat, (tag b ≠ 44 ∨ j ≠ 0) → (tag b ≠ 44 ∨ j ≠ 1) → (tag b ≠ 44 ∨ j ≠ 13) → (tag b ≠ 44 ∨ j ≠ 14) → (tag b ≠ 46 ∨ j ≠ 8) → (tag b ≠ 46 ∨ j ≠ 9) → (tag b ≠ 46 ∨ j ≠ 10) → (tag b ≠ 46 ∨ j ≠ 11) → (tag b ≠ 46 ∨ j ≠ 12) → (tag b ≠ 46 ∨ j ≠ 13) → (tag b ≠ 46 ∨ j ≠ 14) → (tag b ≠ 46 ∨ j ≠ 15) → fld F b j = fld Fo b j) ∧ (∀ b j : Nat, elm F b j = elm Fo b j) := ⟨fun b j n44_0 n44_1 n44_13 n44_14 n46_8 n46_9 n46_10 n46_11 n46_12 n46_13 n46_14 n46_15 => (h1v26403 b j (fr_ne gx0 n44_1)).trans (hfr.1 b j n44_0 n44_1 n44_13 n44_14 n46_8 n46_9 n46_10 n46_11 n46_12 n46_13 n46_14 n46_15), fun b j  => (h2v26403 b j).trans (hfr.2 b j )⟩
      refine lv_aload_n hx hb dX13_readLand_144 rfl (lv_at hl 0 rfl) ?_
      refine t_get (C := RX13) (T := TX13) (N := 37) X hT m0 g0 rfl rfl 4 (by decide) qw_477 inlX13 rfl dX13_readLand_145 (fun v26404 hv26404 ov26404 => ?_)
      obtain rfl : v26404 = .ref x0 := hv26404.symm.trans pf0
      refine lv_iload_n hx hb dX13_readLand_148 rfl (lv_at hl 3 rfl) ?_
      refine t_putN (C := RX12) (T := TX12) (N := 31) (v := .int z26385) X hT mx0 gx0 rfl tyX12 tyX12_ok nmX12 rfl 13 (by decide) (List.mem_of_getElem? (i := 17) rfl) inlX12 rfl (nar_z (by omega)) (fit_z (by omega)) rfl (⟨_, rfl, (show 0 ≤ (z26385 : Int32).toInt from (by omega)), (show (z26385 : Int32).toInt ≤ 1 from (by omega))⟩) dX13_readLand_149 (fun F H locs hT v26405 h1v26405 h2v26405 => ?_)
      have qz26387 := (h1v26405 _ _ (Or.inr (by decide))).trans qz26387
      have qz26388 := (h1v26405 _ _ (Or.inr (by decide))).trans qz26388
      have qz26389 := (h1v26405 _ _ (Or.inr (by decide))).trans qz26389
      have qz26390 := (h1v26405 _ _ (Or.inr (by decide))).trans qz26390
      have qz26391 := (h1v26405 _ _ (Or.inr (by decide))).trans qz26391
      have qfaz26396 := (h1v26405 _ _ (Or.inl (tne g0 gx0 (by decide)))).trans qfaz26396
      have pf0 := (h1v26405 _ _ (Or.inr (by decide))).trans pf0
      have pf1 := (h1v26405 _ _ (Or.inr (by decide))).trans pf1
      have pf2 := (h1v26405 _ _ (Or.inr (by decide))).trans pf2
      have qsoz26396 := (h1v26405 _ _ (Or.inr (by decide))).trans qsoz26396
      have qspz26396 := (h1v26405 _ _ (Or.inr (by decide))).trans qspz26396
      have v26401 := (h1v26405 _ _ (Or.inr (by decide))).trans v26401
      have v26403 := (h1v26405 _ _ (Or.inr (by decide))).trans v26403
      have hfr : (∀ b j : Nat, (tag b ≠ 44 ∨ j ≠ 0) → (tag b ≠ 44 ∨ j ≠ 1) → (tag b ≠ 44 ∨ j ≠ 13) → (tag b ≠ 44 ∨ j ≠ 14) → (tag b ≠ 46 ∨ j ≠ 8) → (tag b ≠ 46 ∨ j ≠ 9) → (tag b ≠ 46 ∨ j ≠ 10) → (tag b ≠ 46 ∨ j ≠ 11) → (tag b ≠ 46 ∨ j ≠ 12) → (tag b ≠ 46 ∨ j ≠ 13) → (tag b ≠ 46 ∨ j ≠ 14) → (tag b ≠ 46 ∨ j ≠ 15) → fld F b j = fld Fo b j) ∧ (∀ b j : Nat, elm F b j = elm Fo b j) := ⟨fun b j n44_0 n44_1 n44_13 n44_14 n46_8 n46_9 n46_10 n46_11 n46_12 n46_13 n46_14 n46_15 => (h1v26405 b j (fr_ne gx0 n44_13)).trans (hfr.1 b j n44_0 n44_1 n44_13 n44_14 n46_8 n46_9 n46_10 n46_11 n46_12 n46_13 n46_14 n46_15), fun b j  => (h2v26405 b j).trans (hfr.2 b j )⟩
      refine lv_aload_n hx hb dX13_readLand_152 rfl (lv_at hl 0 rfl) ?_
      refine t_get (C := RX13) (T := TX13) (N := 37) X hT m0 g0 rfl rfl 4 (by decide) qw_477 inlX13 rfl dX13_readLand_153 (fun v26406 hv26406 ov26406 => ?_)
      obtain rfl : v26406 = .ref x0 := hv26406.symm.trans pf0
      refine lv_iload hx hb dX13_readLand_156 (lv_at hl 4 rfl) ?_
      refine t_putN (C := RX12) (T := TX12) (N := 31) (v := .int z26386) X hT mx0 gx0 rfl tyX12 tyX12_ok nmX12 rfl 14 (by decide) (List.mem_of_getElem? (i := 18) rfl) inlX12 rfl (nar_z (by omega)) (fit_z (by omega)) rfl (⟨_, rfl, (show 0 ≤ (z26386 : Int32).toInt from (by omega)), (show (z26386 : Int32).toInt ≤ 1 from (by omega))⟩) dX13_readLand_158 (fun F H locs hT v26407 h1v26407 h2v26407 => ?_)
      have qz26387 := (h1v26407 _ _ (Or.inr (by decide))).trans qz26387
      have qz26388 := (h1v26407 _ _ (Or.inr (by decide))).trans qz26388
      have qz26389 := (h1v26407 _ _ (Or.inr (by decide))).trans qz26389
      have qz26390 := (h1v26407 _ _ (Or.inr (by decide))).trans qz26390
      have qz26391 := (h1v26407 _ _ (Or.inr (by decide))).trans qz26391
      have qfaz26396 := (h1v26407 _ _ (Or.inr (by decide))).trans qfaz26396
      have pf0 := (h1v26407 _ _ (Or.inr (by decide))).trans pf0
      have pf1 := (h1v26407 _ _ (Or.inr (by decide))).trans pf1
      have pf2 := (h1v26407 _ _ (Or.inr (by decide))).trans pf2
      have qsoz26396 := (h1v26407 _ _ (Or.inr (by decide))).trans qsoz26396
      have qspz26396 := (h1v26407 _ _ (Or.inr (by decide))).trans qspz26396
      have v26401 := (h1v26407 _ _ (Or.inr (by decide))).trans v26401
      have v26403 := (h1v26407 _ _ (Or.inr (by decide))).trans v26403
      have v26405 := (h1v26407 _ _ (Or.inr (by decide))).trans v26405
      have hfr : (∀ b j : Nat, (tag b ≠ 44 ∨ j ≠ 0) → (tag b ≠ 44 ∨ j ≠ 1) → (tag b ≠ 44 ∨ j ≠ 13) → (tag b ≠ 44 ∨ j ≠ 14) → (tag b ≠ 46 ∨ j ≠ 8) → (tag b ≠ 46 ∨ j ≠ 9) → (tag b ≠ 46 ∨ j ≠ 10) → (tag b ≠ 46 ∨ j ≠ 11) → (tag b ≠ 46 ∨ j ≠ 12) → (tag b ≠ 46 ∨ j ≠ 13) → (tag b ≠ 46 ∨ j ≠ 14) → (tag b ≠ 46 ∨ j ≠ 15) → fld F b j = fld Fo b j) ∧ (∀ b j : Nat, elm F b j = elm Fo b j) := ⟨fun b j n44_0 n44_1 n44_13 n44_14 n46_8 n46_9 n46_10 n46_11 n46_12 n46_13 n46_14 n46_15 => (h1v26407 b j (fr_ne gx0 n44_14)).trans (hfr.1 b j n44_0 n44_1 n44_13 n44_14 n46_8 n46_9 n46_10 n46_11 n46_12 n46_13 n46_14 n46_15), fun b j  => (h2v26407 b j).trans (hfr.2 b j )⟩
      have hpl : PLr z26387 z26388 z26389 z26390 z26391 z26383 := ⟨by omega, fun _ => by omega⟩
      exact t_vret hQ X hT ⟨hfr, ⟨soz26396, spz26396, faz26396, qsoz26396, qspz26396, qfaz26396, (by omega), (by omega), (by omega), hstk, hspt, hkf⟩, ⟨z26387, z26388, z26389, z26390, z26391, z26383, qz26387, qz26388, qz26389, qz26390, qz26391, v26401, (by omega), (by omega), (by omega), (by omega), (by omega), (by omega), hpl⟩⟩ (Nat.le_of_ble_eq_true rfl) (Nat.le_of_ble_eq_true rfl) dX13_readLand_161
    · have w26408 := cv_eq (rfl : soz26396.toInt = soz26396.toInt) (by decide : (5 : Int32).toInt = 5) c26398
      exact t_vret hQ X hT ⟨hfr, ⟨soz26396, spz26396, faz26396, qsoz26396, qspz26396, qfaz26396, (by omega), (by omega), (by omega), hstk, hspt, hkf⟩, ⟨z26387, z26388, z26389, z26390, z26391, z26392, qz26387, qz26388, qz26389, qz26390, qz26391, qz26392, (by omega), (by omega), (by omega), (by omega), (by omega), (by omega), hpl⟩⟩ (Nat.le_of_ble_eq_true rfl) (Nat.le_of_ble_eq_true rfl) dX13_readLand_127
  have K75 : ∀ (z26409 : Int32) (z26410 : Int32) (z26411 : Int32) (z26412 : Int32) (z26413 : Int32) (z26414 : Int32) (z26415 : Int32) (z26416 : Int32) (z26417 : Int32) (z26418 : Int32) (z26419 : Int32) (z26420 : Int32) (F : Nat → va_E) (H : Heap) (locs : List Loc) (ls : Array Slot), (3 ≤ z26409.toInt ∧ z26409.toInt ≤ 12) → (3 ≤ z26410.toInt ∧ z26410.toInt ≤ 12) → (0 ≤ z26411.toInt ∧ z26411.toInt ≤ 1) → (0 ≤ z26412.toInt ∧ z26412.toInt ≤ 32) → (0 ≤ z26413.toInt ∧ z26413.toInt ≤ 4) → (0 ≤ z26414.toInt ∧ z26414.toInt ≤ 4) → (0 ≤ z26415.toInt ∧ z26415.toInt ≤ 6) → (0 ≤ z26416.toInt ∧ z26416.toInt ≤ 6) → (0 ≤ z26417.toInt ∧ z26417.toInt ≤ 12) → (0 ≤ z26418.toInt ∧ z26418.toInt ≤ 5) → (0 ≤ z26419.toInt ∧ z26419.toInt ≤ 1000) → (0 ≤ z26420.toInt ∧ z26420.toInt ≤ 7) → TH G ttC A s tag L F H locs → ((∀ b j : Nat, (tag b ≠ 44 ∨ j ≠ 0) → (tag b ≠ 44 ∨ j ≠ 1) → (tag b ≠ 44 ∨ j ≠ 13) → (tag b ≠ 44 ∨ j ≠ 14) → (tag b ≠ 46 ∨ j ≠ 8) → (tag b ≠ 46 ∨ j ≠ 9) → (tag b ≠ 46 ∨ j ≠ 10) → (tag b ≠ 46 ∨ j ≠ 11) → (tag b ≠ 46 ∨ j ≠ 12) → (tag b ≠ 46 ∨ j ≠ 13) → (tag b ≠ 46 ∨ j ≠ 14) → (tag b ≠ 46 ∨ j ≠ 15) → fld F b j = fld Fo b j) ∧ (∀ b j : Nat, elm F b j = elm Fo b j)) → (fld F p0 4 = .ref x0) → (fld F x0 28 = .ref x1) → (fld F x0 29 = .ref x2) → (fld F x0 12 = .int z26412) → (fld F x0 7 = .int z26413) → (fld F x0 8 = .int z26414) → (fld F x0 9 = .int z26415) → (fld F x0 10 = .int z26416) → (fld F x0 0 = .int z26417) → (fld F p0 9 = .int z26418) → (fld F p0 8 = .int z26419) → (fld F p0 13 = .int z26420) → (STK x3 z26418) → (SPT x3 x4 z26418 z26419) → (KF z26418 z26420) → (PLr z26412 z26413 z26414 z26415 z26416 z26417) → lv_has ls 5 [(0, .ref p0), (1, .int z26409), (2, .int z26410), (3, .int z26411)] → W p l e { frames := 8, cells := 0, slots := 0, locals := 173 } s m args below meth c H locs 0 0 Q (F0 m 75 ls []) := by
    intro z26409 z26410 z26411 z26412 z26413 z26414 z26415 z26416 z26417 z26418 z26419 z26420 F H locs ls rz26409 rz26410 rz26411 rz26412 rz26413 rz26414 rz26415 rz26416 rz26417 rz26418 rz26419 rz26420 hT hfr pf0 pf1 pf2 qz26412 qz26413 qz26414 qz26415 qz26416 qz26417 qz26418 qz26419 qz26420 hstk hspt hkf hpl hl
    refine lv_aload_n hx hb dX13_readLand_75 rfl (lv_at hl 0 rfl) ?_
    refine t_cVv (n := 0) (C := RX13) (T := TX13) (N := 37) (As := []) (rest := []) X hT (km14_X13_goesOn l G tag L F hT.2.2.2 p0 x0 x1 x2 z26418 z26419 z26420 m0 g0 mx0 gx0 pf0 mx1 gx1 pf1 mx2 gx2 pf2 (by omega) qz26418 (by omega) qz26419 (by omega) qz26420 hkf) m0 g0 rfl rfl qw_508 qw_509 qw_510 qw_5 qw_511 ⟨rfl, by decide +kernel, by decide +kernel, by decide +kernel⟩ ⟨Nat.le_of_ble_eq_true rfl, Nat.le_of_ble_eq_true rfl⟩ hl rfl rfl (Nat.le_of_ble_eq_true rfl) dX13_readLand_76 ⟨Nat.le_of_ble_eq_true rfl, Nat.le_of_ble_eq_true rfl⟩ (fun F H locs hT hz26421 => ?_)
    obtain ⟨yz26421, ⟨soz26421, spz26421, faz26421, qsoz26421, qspz26421, qfaz26421, rsoz26421, rspz26421, rfaz26421, stz26421, ptz26421, hkf⟩⟩ := hz26421
    have qz26412 := (yz26421.1 _ 12 (Or.inr (by decide)) (Or.inr (by decide)) (Or.inr (by decide)) (Or.inr (by decide)) (Or.inl (by rw [gx0]; decide)) (Or.inr (by decide))).trans qz26412
    have qz26413 := (yz26421.1 _ 7 (Or.inr (by decide)) (Or.inr (by decide)) (Or.inr (by decide)) (Or.inr (by decide)) (Or.inr (by decide)) (Or.inr (by decide))).trans qz26413
    have qz26414 := (yz26421.1 _ 8 (Or.inl (by rw [gx0]; decide)) (Or.inr (by decide)) (Or.inr (by decide)) (Or.inr (by decide)) (Or.inr (by decide)) (Or.inr (by decide))).trans qz26414
    have qz26415 := (yz26421.1 _ 9 (Or.inr (by decide)) (Or.inl (by rw [gx0]; decide)) (Or.inr (by decide)) (Or.inr (by decide)) (Or.inr (by decide)) (Or.inr (by decide))).trans qz26415
    have qz26416 := (yz26421.1 _ 10 (Or.inr (by decide)) (Or.inr (by decide)) (Or.inl (by rw [gx0]; decide)) (Or.inr (by decide)) (Or.inr (by decide)) (Or.inr (by decide))).trans qz26416
    have qz26417 := (yz26421.1 _ 0 (Or.inr (by decide)) (Or.inr (by decide)) (Or.inr (by decide)) (Or.inr (by decide)) (Or.inr (by decide)) (Or.inr (by decide))).trans qz26417
    have qz26420 := (yz26421.1 _ 13 (Or.inr (by decide)) (Or.inr (by decide)) (Or.inr (by decide)) (Or.inr (by decide)) (Or.inr (by decide)) (Or.inr (by decide))).trans qz26420
    have pf0 := (yz26421.1 _ 4 (Or.inr (by decide)) (Or.inr (by decide)) (Or.inr (by decide)) (Or.inr (by decide)) (Or.inr (by decide)) (Or.inr (by decide))).trans pf0
    have pf1 := (yz26421.1 _ 28 (Or.inr (by decide)) (Or.inr (by decide)) (Or.inr (by decide)) (Or.inr (by decide)) (Or.inr (by decide)) (Or.inr (by decide))).trans pf1
    have pf2 := (yz26421.1 _ 29 (Or.inr (by decide)) (Or.inr (by decide)) (Or.inr (by decide)) (Or.inr (by decide)) (Or.inr (by decide)) (Or.inr (by decide))).trans pf2
    have hfr : (∀ b j : Nat, (tag b ≠ 44 ∨ j ≠ 0) → (tag b ≠ 44 ∨ j ≠ 1) → (tag b ≠ 44 ∨ j ≠ 13) → (tag b ≠ 44 ∨ j ≠ 14) → (tag b ≠ 46 ∨ j ≠ 8) → (tag b ≠ 46 ∨ j ≠ 9) → (tag b ≠ 46 ∨ j ≠ 10) → (tag b ≠ 46 ∨ j ≠ 11) → (tag b ≠ 46 ∨ j ≠ 12) → (tag b ≠ 46 ∨ j ≠ 13) → (tag b ≠ 46 ∨ j ≠ 14) → (tag b ≠ 46 ∨ j ≠ 15) → fld F b j = fld Fo b j) ∧ (∀ b j : Nat, elm F b j = elm Fo b j) := ⟨fun b j n44_0 n44_1 n44_13 n44_14 n46_8 n46_9 n46_10 n46_11 n46_12 n46_13 n46_14 n46_15 => (yz26421.1 b j n46_8 n46_9 n46_10 n46_11 n46_12 n46_15).trans (hfr.1 b j n44_0 n44_1 n44_13 n44_14 n46_8 n46_9 n46_10 n46_11 n46_12 n46_13 n46_14 n46_15), fun b j  => (yz26421.2 b j ).trans (hfr.2 b j )⟩
    have hstk := STK.tr hstk stz26421
    have hspt := SPT.tr hspt ptz26421
    refine lv_aload_n hx hb dX13_readLand_79 rfl (lv_at hl 0 rfl) ?_
    refine m_ldcKw X 45 rfl dX13_readLand_80 ?_
    refine t_cVv (n := 1) (C := RX13) (T := TX13) (N := 37) (As := [.ref (G.2 (100 + 45))]) (rest := []) X hT (km40_X13_needs l G tag L F hT.2.2.2 p0 45 x0 x1 x2 soz26421 spz26421 faz26421 m0 g0 (by decide) mx0 gx0 pf0 mx1 gx1 pf1 mx2 gx2 pf2 (by omega) qsoz26421 (by omega) qspz26421 (by omega) qfaz26421 hkf) m0 g0 rfl rfl qw_556 qw_557 qw_558 qw_5 qw_559 ⟨rfl, by decide +kernel, by decide +kernel, by decide +kernel⟩ ⟨Nat.le_of_ble_eq_true rfl, Nat.le_of_ble_eq_true rfl⟩ hl rfl rfl (Nat.le_of_ble_eq_true rfl) dX13_readLand_83 ⟨Nat.le_of_ble_eq_true rfl, Nat.le_of_ble_eq_true rfl⟩ (fun F H locs hT hz26422 => ?_)
    obtain ⟨yz26422, ⟨soz26422, spz26422, faz26422, qsoz26422, qspz26422, qfaz26422, rsoz26422, rspz26422, rfaz26422, stz26422, ptz26422, hkf⟩⟩ := hz26422
    have qz26412 := (yz26422.1 _ 12 (Or.inr (by decide)) (Or.inr (by decide)) (Or.inr (by decide)) (Or.inr (by decide)) (Or.inl (by rw [gx0]; decide)) (Or.inr (by decide)) (Or.inr (by decide)) (Or.inr (by decide))).trans qz26412
    have qz26413 := (yz26422.1 _ 7 (Or.inr (by decide)) (Or.inr (by decide)) (Or.inr (by decide)) (Or.inr (by decide)) (Or.inr (by decide)) (Or.inr (by decide)) (Or.inr (by decide)) (Or.inr (by decide))).trans qz26413
    have qz26414 := (yz26422.1 _ 8 (Or.inl (by rw [gx0]; decide)) (Or.inr (by decide)) (Or.inr (by decide)) (Or.inr (by decide)) (Or.inr (by decide)) (Or.inr (by decide)) (Or.inr (by decide)) (Or.inr (by decide))).trans qz26414
    have qz26415 := (yz26422.1 _ 9 (Or.inr (by decide)) (Or.inl (by rw [gx0]; decide)) (Or.inr (by decide)) (Or.inr (by decide)) (Or.inr (by decide)) (Or.inr (by decide)) (Or.inr (by decide)) (Or.inr (by decide))).trans qz26415
    have qz26416 := (yz26422.1 _ 10 (Or.inr (by decide)) (Or.inr (by decide)) (Or.inl (by rw [gx0]; decide)) (Or.inr (by decide)) (Or.inr (by decide)) (Or.inr (by decide)) (Or.inr (by decide)) (Or.inr (by decide))).trans qz26416
    have qz26417 := (yz26422.1 _ 0 (Or.inr (by decide)) (Or.inr (by decide)) (Or.inr (by decide)) (Or.inr (by decide)) (Or.inr (by decide)) (Or.inr (by decide)) (Or.inr (by decide)) (Or.inr (by decide))).trans qz26417
    have pf0 := (yz26422.1 _ 4 (Or.inr (by decide)) (Or.inr (by decide)) (Or.inr (by decide)) (Or.inr (by decide)) (Or.inr (by decide)) (Or.inr (by decide)) (Or.inr (by decide)) (Or.inr (by decide))).trans pf0
    have pf1 := (yz26422.1 _ 28 (Or.inr (by decide)) (Or.inr (by decide)) (Or.inr (by decide)) (Or.inr (by decide)) (Or.inr (by decide)) (Or.inr (by decide)) (Or.inr (by decide)) (Or.inr (by decide))).trans pf1
    have pf2 := (yz26422.1 _ 29 (Or.inr (by decide)) (Or.inr (by decide)) (Or.inr (by decide)) (Or.inr (by decide)) (Or.inr (by decide)) (Or.inr (by decide)) (Or.inr (by decide)) (Or.inr (by decide))).trans pf2
    have hfr : (∀ b j : Nat, (tag b ≠ 44 ∨ j ≠ 0) → (tag b ≠ 44 ∨ j ≠ 1) → (tag b ≠ 44 ∨ j ≠ 13) → (tag b ≠ 44 ∨ j ≠ 14) → (tag b ≠ 46 ∨ j ≠ 8) → (tag b ≠ 46 ∨ j ≠ 9) → (tag b ≠ 46 ∨ j ≠ 10) → (tag b ≠ 46 ∨ j ≠ 11) → (tag b ≠ 46 ∨ j ≠ 12) → (tag b ≠ 46 ∨ j ≠ 13) → (tag b ≠ 46 ∨ j ≠ 14) → (tag b ≠ 46 ∨ j ≠ 15) → fld F b j = fld Fo b j) ∧ (∀ b j : Nat, elm F b j = elm Fo b j) := ⟨fun b j n44_0 n44_1 n44_13 n44_14 n46_8 n46_9 n46_10 n46_11 n46_12 n46_13 n46_14 n46_15 => (yz26422.1 b j n46_8 n46_9 n46_10 n46_11 n46_12 n46_13 n46_14 n46_15).trans (hfr.1 b j n44_0 n44_1 n44_13 n44_14 n46_8 n46_9 n46_10 n46_11 n46_12 n46_13 n46_14 n46_15), fun b j  => (yz26422.2 b j ).trans (hfr.2 b j )⟩
    have hstk := STK.tr hstk stz26422
    have hspt := SPT.tr hspt ptz26422
    refine lv_aload_n hx hb dX13_readLand_86 rfl (lv_at hl 0 rfl) ?_
    refine m_ldcKw X 46 rfl dX13_readLand_87 ?_
    refine t_cVi (n := 1) (C := RX13) (T := TX13) (N := 37) (As := [.ref (G.2 (100 + 46))]) (rest := []) X hT (km9_X13_isWord l G tag L F hT.2.2.2 p0 46 soz26422 m0 g0 (by decide) (by omega) qsoz26422) m0 g0 rfl rfl qw_535 qw_536 qw_537 qw_5 qw_538 ⟨rfl, by decide +kernel, by decide +kernel, by decide +kernel⟩ ⟨Nat.le_of_ble_eq_true rfl, Nat.le_of_ble_eq_true rfl⟩ hl rfl rfl (Nat.le_of_ble_eq_true rfl) dX13_readLand_90 ⟨Nat.le_of_ble_eq_true rfl, Nat.le_of_ble_eq_true rfl⟩ (fun z26423 F9 H locs hT hz26423 => ?_)
    obtain ⟨fz26423, hz26423, xz26423_0⟩ := hz26423
    rw [fz26423] at hT
    refine lv_istore (lv' := [(4, .int z26423), (0, .ref p0), (1, .int z26409), (2, .int z26410), (3, .int z26411)]) hx hb dX13_readLand_93 hl (by decide) rfl (fun ls hl => ?_)
    refine lv_iload hx hb dX13_readLand_95 (lv_at hl 0 rfl) ?_
    refine lv_if_ne (tgt := 115) hx hb dX13_readLand_97 (by decide) (fun c26424 => ?_) (fun c26424 => ?_)
    · have w26425 := cv_ne (rfl : z26423.toInt = z26423.toInt) (by decide : (0 : Int32).toInt = 0) c26424
      exact K115 z26409 z26410 z26411 z26423 z26412 z26413 z26414 z26415 z26416 z26417 soz26422 spz26422 faz26422 _ _ _ _ (by omega) (by omega) (by omega) (by omega) (by omega) (by omega) (by omega) (by omega) (by omega) (by omega) (by omega) (by omega) (by omega) hT hfr pf0 pf1 pf2 qz26412 qz26413 qz26414 qz26415 qz26416 qz26417 qsoz26422 qspz26422 qfaz26422 hstk hspt hkf hpl (lv_sub hl [1, 2, 3, 4, 0] rfl)
    · have w26426 := cv_eq (rfl : z26423.toInt = z26423.toInt) (by decide : (0 : Int32).toInt = 0) c26424
      refine lv_aload_n hx hb dX13_readLand_100 rfl (lv_at hl 1 rfl) ?_
      refine m_ldcKw X 47 rfl dX13_readLand_101 ?_
      refine t_cVi (n := 1) (C := RX13) (T := TX13) (N := 37) (As := [.ref (G.2 (100 + 47))]) (rest := []) X hT (km9_X13_isWord l G tag L F hT.2.2.2 p0 47 soz26422 m0 g0 (by decide) (by omega) qsoz26422) m0 g0 rfl rfl qw_535 qw_536 qw_537 qw_5 qw_538 ⟨rfl, by decide +kernel, by decide +kernel, by decide +kernel⟩ ⟨Nat.le_of_ble_eq_true rfl, Nat.le_of_ble_eq_true rfl⟩ hl rfl rfl (Nat.le_of_ble_eq_true rfl) dX13_readLand_104 ⟨Nat.le_of_ble_eq_true rfl, Nat.le_of_ble_eq_true rfl⟩ (fun z26427 F9 H locs hT hz26427 => ?_)
      obtain ⟨fz26427, hz26427, xz26427_0⟩ := hz26427
      rw [fz26427] at hT
      refine lv_if_ne (tgt := 115) hx hb dX13_readLand_107 (by decide) (fun c26428 => ?_) (fun c26428 => ?_)
      · have w26429 := cv_ne (rfl : z26427.toInt = z26427.toInt) (by decide : (0 : Int32).toInt = 0) c26428
        exact K115 z26409 z26410 z26411 z26423 z26412 z26413 z26414 z26415 z26416 z26417 soz26422 spz26422 faz26422 _ _ _ _ (by omega) (by omega) (by omega) (by omega) (by omega) (by omega) (by omega) (by omega) (by omega) (by omega) (by omega) (by omega) (by omega) hT hfr pf0 pf1 pf2 qz26412 qz26413 qz26414 qz26415 qz26416 qz26417 qsoz26422 qspz26422 qfaz26422 hstk hspt hkf hpl (lv_sub hl [1, 2, 3, 4, 0] rfl)
      · have w26430 := cv_eq (rfl : z26427.toInt = z26427.toInt) (by decide : (0 : Int32).toInt = 0) c26428
        refine lv_aload_n hx hb dX13_readLand_110 rfl (lv_at hl 1 rfl) ?_
        refine lv_iconst (v := 1) hx hb dX13_readLand_111 (by decide) ?_
        refine t_cVv (n := 1) (C := RX13) (T := TX13) (N := 37) (As := [.int 1]) (rest := []) X hT (km10_X13_flaw l G tag L F hT.2.2.2 p0 1 x0 x1 x2 soz26422 spz26422 faz26422 m0 g0 (by decide) mx0 gx0 pf0 mx1 gx1 pf1 mx2 gx2 pf2 (by omega) qsoz26422 (by omega) qspz26422 (by omega) qfaz26422 hkf) m0 g0 rfl rfl qw_548 qw_549 qw_550 qw_5 qw_551 ⟨rfl, by decide +kernel, by decide +kernel, by decide +kernel⟩ ⟨Nat.le_of_ble_eq_true rfl, Nat.le_of_ble_eq_true rfl⟩ hl rfl rfl (Nat.le_of_ble_eq_true rfl) dX13_readLand_112 ⟨Nat.le_of_ble_eq_true rfl, Nat.le_of_ble_eq_true rfl⟩ (fun F H locs hT hz26431 => ?_)
        obtain ⟨yz26431, ⟨soz26431, spz26431, faz26431, qsoz26431, qspz26431, qfaz26431, rsoz26431, rspz26431, rfaz26431, stz26431, ptz26431, hkf, pxz26431_0⟩⟩ := hz26431
        have qz26412 := (yz26431.1 _ 12 (Or.inr (by decide)) (Or.inr (by decide)) (Or.inr (by decide))).trans qz26412
        have qz26413 := (yz26431.1 _ 7 (Or.inr (by decide)) (Or.inr (by decide)) (Or.inr (by decide))).trans qz26413
        have qz26414 := (yz26431.1 _ 8 (Or.inr (by decide)) (Or.inr (by decide)) (Or.inr (by decide))).trans qz26414
        have qz26415 := (yz26431.1 _ 9 (Or.inl (by rw [gx0]; decide)) (Or.inr (by decide)) (Or.inr (by decide))).trans qz26415
        have qz26416 := (yz26431.1 _ 10 (Or.inr (by decide)) (Or.inr (by decide)) (Or.inr (by decide))).trans qz26416
        have qz26417 := (yz26431.1 _ 0 (Or.inr (by decide)) (Or.inr (by decide)) (Or.inr (by decide))).trans qz26417
        have pf0 := (yz26431.1 _ 4 (Or.inr (by decide)) (Or.inr (by decide)) (Or.inr (by decide))).trans pf0
        have pf1 := (yz26431.1 _ 28 (Or.inr (by decide)) (Or.inr (by decide)) (Or.inr (by decide))).trans pf1
        have pf2 := (yz26431.1 _ 29 (Or.inr (by decide)) (Or.inr (by decide)) (Or.inr (by decide))).trans pf2
        have qspz26422 := (yz26431.1 _ 8 (Or.inr (by decide)) (Or.inr (by decide)) (Or.inr (by decide))).trans qspz26422
        have hfr : (∀ b j : Nat, (tag b ≠ 44 ∨ j ≠ 0) → (tag b ≠ 44 ∨ j ≠ 1) → (tag b ≠ 44 ∨ j ≠ 13) → (tag b ≠ 44 ∨ j ≠ 14) → (tag b ≠ 46 ∨ j ≠ 8) → (tag b ≠ 46 ∨ j ≠ 9) → (tag b ≠ 46 ∨ j ≠ 10) → (tag b ≠ 46 ∨ j ≠ 11) → (tag b ≠ 46 ∨ j ≠ 12) → (tag b ≠ 46 ∨ j ≠ 13) → (tag b ≠ 46 ∨ j ≠ 14) → (tag b ≠ 46 ∨ j ≠ 15) → fld F b j = fld Fo b j) ∧ (∀ b j : Nat, elm F b j = elm Fo b j) := ⟨fun b j n44_0 n44_1 n44_13 n44_14 n46_8 n46_9 n46_10 n46_11 n46_12 n46_13 n46_14 n46_15 => (yz26431.1 b j n46_9 n46_13 n46_14).trans (hfr.1 b j n44_0 n44_1 n44_13 n44_14 n46_8 n46_9 n46_10 n46_11 n46_12 n46_13 n46_14 n46_15), fun b j  => (yz26431.2 b j ).trans (hfr.2 b j )⟩
        have hstk := STK.tr hstk stz26431
        have hspt := SPT.tr hspt ptz26431
        exact K115 z26409 z26410 z26411 z26423 z26412 z26413 z26414 z26415 z26416 z26417 soz26431 spz26431 faz26431 _ _ _ _ (by omega) (by omega) (by omega) (by omega) (by omega) (by omega) (by omega) (by omega) (by omega) (by omega) (by omega) (by omega) (by omega) hT hfr pf0 pf1 pf2 qz26412 qz26413 qz26414 qz26415 qz26416 qz26417 qsoz26431 qspz26431 qfaz26431 hstk hspt hkf hpl (lv_sub hl [1, 2, 3, 4, 0] rfl)
  have K15 : ∀ (z26432 : Int32) (z26433 : Int32) (z26434 : Int32) (z26435 : Int32) (z26436 : Int32) (z26437 : Int32) (z26438 : Int32) (z26439 : Int32) (z26440 : Int32) (F : Nat → va_E) (H : Heap) (locs : List Loc) (ls : Array Slot), (0 ≤ z26432.toInt ∧ z26432.toInt ≤ 5) → (0 ≤ z26433.toInt ∧ z26433.toInt ≤ 1000) → (0 ≤ z26434.toInt ∧ z26434.toInt ≤ 7) → (0 ≤ z26435.toInt ∧ z26435.toInt ≤ 32) → (0 ≤ z26436.toInt ∧ z26436.toInt ≤ 4) → (0 ≤ z26437.toInt ∧ z26437.toInt ≤ 4) → (0 ≤ z26438.toInt ∧ z26438.toInt ≤ 6) → (0 ≤ z26439.toInt ∧ z26439.toInt ≤ 6) → (0 ≤ z26440.toInt ∧ z26440.toInt ≤ 12) → TH G ttC A s tag L F H locs → ((∀ b j : Nat, (tag b ≠ 44 ∨ j ≠ 0) → (tag b ≠ 44 ∨ j ≠ 1) → (tag b ≠ 44 ∨ j ≠ 13) → (tag b ≠ 44 ∨ j ≠ 14) → (tag b ≠ 46 ∨ j ≠ 8) → (tag b ≠ 46 ∨ j ≠ 9) → (tag b ≠ 46 ∨ j ≠ 10) → (tag b ≠ 46 ∨ j ≠ 11) → (tag b ≠ 46 ∨ j ≠ 12) → (tag b ≠ 46 ∨ j ≠ 13) → (tag b ≠ 46 ∨ j ≠ 14) → (tag b ≠ 46 ∨ j ≠ 15) → fld F b j = fld Fo b j) ∧ (∀ b j : Nat, elm F b j = elm Fo b j)) → (fld F p0 4 = .ref x0) → (fld F x0 28 = .ref x1) → (fld F x0 29 = .ref x2) → (fld F p0 9 = .int z26432) → (fld F p0 8 = .int z26433) → (fld F p0 13 = .int z26434) → (fld F x0 12 = .int z26435) → (fld F x0 7 = .int z26436) → (fld F x0 8 = .int z26437) → (fld F x0 9 = .int z26438) → (fld F x0 10 = .int z26439) → (fld F x0 0 = .int z26440) → (STK x3 z26432) → (SPT x3 x4 z26432 z26433) → (KF z26432 z26434) → (PLr z26435 z26436 z26437 z26438 z26439 z26440) → lv_has ls 5 [(0, .ref p0)] → W p l e { frames := 8, cells := 0, slots := 0, locals := 173 } s m args below meth c H locs 0 0 Q (F0 m 15 ls []) := by
    intro z26432 z26433 z26434 z26435 z26436 z26437 z26438 z26439 z26440 F H locs ls rz26432 rz26433 rz26434 rz26435 rz26436 rz26437 rz26438 rz26439 rz26440 hT hfr pf0 pf1 pf2 qz26432 qz26433 qz26434 qz26435 qz26436 qz26437 qz26438 qz26439 qz26440 hstk hspt hkf hpl hl
    refine lv_aload_n hx hb dX13_readLand_15 rfl (lv_at hl 0 rfl) ?_
    refine t_cVv (n := 0) (C := RX13) (T := TX13) (N := 37) (As := []) (rest := []) X hT (km14_X13_goesOn l G tag L F hT.2.2.2 p0 x0 x1 x2 z26432 z26433 z26434 m0 g0 mx0 gx0 pf0 mx1 gx1 pf1 mx2 gx2 pf2 (by omega) qz26432 (by omega) qz26433 (by omega) qz26434 hkf) m0 g0 rfl rfl qw_508 qw_509 qw_510 qw_5 qw_511 ⟨rfl, by decide +kernel, by decide +kernel, by decide +kernel⟩ ⟨Nat.le_of_ble_eq_true rfl, Nat.le_of_ble_eq_true rfl⟩ hl rfl rfl (Nat.le_of_ble_eq_true rfl) dX13_readLand_16 ⟨Nat.le_of_ble_eq_true rfl, Nat.le_of_ble_eq_true rfl⟩ (fun F H locs hT hz26441 => ?_)
    obtain ⟨yz26441, ⟨soz26441, spz26441, faz26441, qsoz26441, qspz26441, qfaz26441, rsoz26441, rspz26441, rfaz26441, stz26441, ptz26441, hkf⟩⟩ := hz26441
    have qz26434 := (yz26441.1 _ 13 (Or.inr (by decide)) (Or.inr (by decide)) (Or.inr (by decide)) (Or.inr (by decide)) (Or.inr (by decide)) (Or.inr (by decide))).trans qz26434
    have qz26435 := (yz26441.1 _ 12 (Or.inr (by decide)) (Or.inr (by decide)) (Or.inr (by decide)) (Or.inr (by decide)) (Or.inl (by rw [gx0]; decide)) (Or.inr (by decide))).trans qz26435
    have qz26436 := (yz26441.1 _ 7 (Or.inr (by decide)) (Or.inr (by decide)) (Or.inr (by decide)) (Or.inr (by decide)) (Or.inr (by decide)) (Or.inr (by decide))).trans qz26436
    have qz26437 := (yz26441.1 _ 8 (Or.inl (by rw [gx0]; decide)) (Or.inr (by decide)) (Or.inr (by decide)) (Or.inr (by decide)) (Or.inr (by decide)) (Or.inr (by decide))).trans qz26437
    have qz26438 := (yz26441.1 _ 9 (Or.inr (by decide)) (Or.inl (by rw [gx0]; decide)) (Or.inr (by decide)) (Or.inr (by decide)) (Or.inr (by decide)) (Or.inr (by decide))).trans qz26438
    have qz26439 := (yz26441.1 _ 10 (Or.inr (by decide)) (Or.inr (by decide)) (Or.inl (by rw [gx0]; decide)) (Or.inr (by decide)) (Or.inr (by decide)) (Or.inr (by decide))).trans qz26439
    have qz26440 := (yz26441.1 _ 0 (Or.inr (by decide)) (Or.inr (by decide)) (Or.inr (by decide)) (Or.inr (by decide)) (Or.inr (by decide)) (Or.inr (by decide))).trans qz26440
    have pf0 := (yz26441.1 _ 4 (Or.inr (by decide)) (Or.inr (by decide)) (Or.inr (by decide)) (Or.inr (by decide)) (Or.inr (by decide)) (Or.inr (by decide))).trans pf0
    have pf1 := (yz26441.1 _ 28 (Or.inr (by decide)) (Or.inr (by decide)) (Or.inr (by decide)) (Or.inr (by decide)) (Or.inr (by decide)) (Or.inr (by decide))).trans pf1
    have pf2 := (yz26441.1 _ 29 (Or.inr (by decide)) (Or.inr (by decide)) (Or.inr (by decide)) (Or.inr (by decide)) (Or.inr (by decide)) (Or.inr (by decide))).trans pf2
    have hfr : (∀ b j : Nat, (tag b ≠ 44 ∨ j ≠ 0) → (tag b ≠ 44 ∨ j ≠ 1) → (tag b ≠ 44 ∨ j ≠ 13) → (tag b ≠ 44 ∨ j ≠ 14) → (tag b ≠ 46 ∨ j ≠ 8) → (tag b ≠ 46 ∨ j ≠ 9) → (tag b ≠ 46 ∨ j ≠ 10) → (tag b ≠ 46 ∨ j ≠ 11) → (tag b ≠ 46 ∨ j ≠ 12) → (tag b ≠ 46 ∨ j ≠ 13) → (tag b ≠ 46 ∨ j ≠ 14) → (tag b ≠ 46 ∨ j ≠ 15) → fld F b j = fld Fo b j) ∧ (∀ b j : Nat, elm F b j = elm Fo b j) := ⟨fun b j n44_0 n44_1 n44_13 n44_14 n46_8 n46_9 n46_10 n46_11 n46_12 n46_13 n46_14 n46_15 => (yz26441.1 b j n46_8 n46_9 n46_10 n46_11 n46_12 n46_15).trans (hfr.1 b j n44_0 n44_1 n44_13 n44_14 n46_8 n46_9 n46_10 n46_11 n46_12 n46_13 n46_14 n46_15), fun b j  => (yz26441.2 b j ).trans (hfr.2 b j )⟩
    have hstk := STK.tr hstk stz26441
    have hspt := SPT.tr hspt ptz26441
    refine lv_aload_n hx hb dX13_readLand_19 rfl (lv_at hl 0 rfl) ?_
    refine m_ldcKw X 40 rfl dX13_readLand_20 ?_
    refine lv_iconst (v := 3) hx hb dX13_readLand_23 (by decide) ?_
    refine lv_bipush (v := 12) hx hb dX13_readLand_24 (by decide) ?_
    refine t_cVi (n := 3) (C := RX13) (T := TX13) (N := 37) (As := [.ref (G.2 (100 + 40)), .int 3, .int 12]) (rest := []) X hT (km78_X13_readPart l G tag L F hT.2.2.2 p0 40 3 12 x0 x1 x2 soz26441 spz26441 faz26441 m0 g0 (by decide) (by decide) (by decide) mx0 gx0 pf0 mx1 gx1 pf1 mx2 gx2 pf2 (by omega) qsoz26441 (by omega) qspz26441 (by omega) qfaz26441 hkf) m0 g0 rfl rfl qw_552 qw_553 qw_554 qw_5 qw_555 ⟨rfl, by decide +kernel, by decide +kernel, by decide +kernel⟩ ⟨Nat.le_of_ble_eq_true rfl, Nat.le_of_ble_eq_true rfl⟩ hl rfl rfl (Nat.le_of_ble_eq_true rfl) dX13_readLand_26 ⟨Nat.le_of_ble_eq_true rfl, Nat.le_of_ble_eq_true rfl⟩ (fun z26442 F H locs hT hz26442 => ?_)
    obtain ⟨hz26442, yz26442, ⟨soz26442, spz26442, faz26442, qsoz26442, qspz26442, qfaz26442, rsoz26442, rspz26442, rfaz26442, stz26442, ptz26442, hkf⟩⟩ := hz26442
    have qz26435 := (yz26442.1 _ 12 (Or.inr (by decide)) (Or.inr (by decide)) (Or.inr (by decide)) (Or.inr (by decide)) (Or.inl (by rw [gx0]; decide)) (Or.inr (by decide)) (Or.inr (by decide)) (Or.inr (by decide))).trans qz26435
    have qz26436 := (yz26442.1 _ 7 (Or.inr (by decide)) (Or.inr (by decide)) (Or.inr (by decide)) (Or.inr (by decide)) (Or.inr (by decide)) (Or.inr (by decide)) (Or.inr (by decide)) (Or.inr (by decide))).trans qz26436
    have qz26437 := (yz26442.1 _ 8 (Or.inl (by rw [gx0]; decide)) (Or.inr (by decide)) (Or.inr (by decide)) (Or.inr (by decide)) (Or.inr (by decide)) (Or.inr (by decide)) (Or.inr (by decide)) (Or.inr (by decide))).trans qz26437
    have qz26438 := (yz26442.1 _ 9 (Or.inr (by decide)) (Or.inl (by rw [gx0]; decide)) (Or.inr (by decide)) (Or.inr (by decide)) (Or.inr (by decide)) (Or.inr (by decide)) (Or.inr (by decide)) (Or.inr (by decide))).trans qz26438
    have qz26439 := (yz26442.1 _ 10 (Or.inr (by decide)) (Or.inr (by decide)) (Or.inl (by rw [gx0]; decide)) (Or.inr (by decide)) (Or.inr (by decide)) (Or.inr (by decide)) (Or.inr (by decide)) (Or.inr (by decide))).trans qz26439
    have qz26440 := (yz26442.1 _ 0 (Or.inr (by decide)) (Or.inr (by decide)) (Or.inr (by decide)) (Or.inr (by decide)) (Or.inr (by decide)) (Or.inr (by decide)) (Or.inr (by decide)) (Or.inr (by decide))).trans qz26440
    have pf0 := (yz26442.1 _ 4 (Or.inr (by decide)) (Or.inr (by decide)) (Or.inr (by decide)) (Or.inr (by decide)) (Or.inr (by decide)) (Or.inr (by decide)) (Or.inr (by decide)) (Or.inr (by decide))).trans pf0
    have pf1 := (yz26442.1 _ 28 (Or.inr (by decide)) (Or.inr (by decide)) (Or.inr (by decide)) (Or.inr (by decide)) (Or.inr (by decide)) (Or.inr (by decide)) (Or.inr (by decide)) (Or.inr (by decide))).trans pf1
    have pf2 := (yz26442.1 _ 29 (Or.inr (by decide)) (Or.inr (by decide)) (Or.inr (by decide)) (Or.inr (by decide)) (Or.inr (by decide)) (Or.inr (by decide)) (Or.inr (by decide)) (Or.inr (by decide))).trans pf2
    have hfr : (∀ b j : Nat, (tag b ≠ 44 ∨ j ≠ 0) → (tag b ≠ 44 ∨ j ≠ 1) → (tag b ≠ 44 ∨ j ≠ 13) → (tag b ≠ 44 ∨ j ≠ 14) → (tag b ≠ 46 ∨ j ≠ 8) → (tag b ≠ 46 ∨ j ≠ 9) → (tag b ≠ 46 ∨ j ≠ 10) → (tag b ≠ 46 ∨ j ≠ 11) → (tag b ≠ 46 ∨ j ≠ 12) → (tag b ≠ 46 ∨ j ≠ 13) → (tag b ≠ 46 ∨ j ≠ 14) → (tag b ≠ 46 ∨ j ≠ 15) → fld F b j = fld Fo b j) ∧ (∀ b j : Nat, elm F b j = elm Fo b j) := ⟨fun b j n44_0 n44_1 n44_13 n44_14 n46_8 n46_9 n46_10 n46_11 n46_12 n46_13 n46_14 n46_15 => (yz26442.1 b j n46_8 n46_9 n46_10 n46_11 n46_12 n46_13 n46_14 n46_15).trans (hfr.1 b j n44_0 n44_1 n44_13 n44_14 n46_8 n46_9 n46_10 n46_11 n46_12 n46_13 n46_14 n46_15), fun b j  => (yz26442.2 b j ).trans (hfr.2 b j )⟩
    have hstk := STK.tr hstk stz26442
    have hspt := SPT.tr hspt ptz26442
    refine lv_istore_n (lv' := [(1, .int z26442), (0, .ref p0)]) hx hb dX13_readLand_29 rfl hl (by decide) rfl (fun ls hl => ?_)
    refine lv_aload_n hx hb dX13_readLand_30 rfl (lv_at hl 1 rfl) ?_
    refine m_ldcKw X 41 rfl dX13_readLand_31 ?_
    refine lv_iconst (v := 3) hx hb dX13_readLand_34 (by decide) ?_
    refine lv_bipush (v := 12) hx hb dX13_readLand_35 (by decide) ?_
    refine t_cVi (n := 3) (C := RX13) (T := TX13) (N := 37) (As := [.ref (G.2 (100 + 41)), .int 3, .int 12]) (rest := []) X hT (km78_X13_readPart l G tag L F hT.2.2.2 p0 41 3 12 x0 x1 x2 soz26442 spz26442 faz26442 m0 g0 (by decide) (by decide) (by decide) mx0 gx0 pf0 mx1 gx1 pf1 mx2 gx2 pf2 (by omega) qsoz26442 (by omega) qspz26442 (by omega) qfaz26442 hkf) m0 g0 rfl rfl qw_552 qw_553 qw_554 qw_5 qw_555 ⟨rfl, by decide +kernel, by decide +kernel, by decide +kernel⟩ ⟨Nat.le_of_ble_eq_true rfl, Nat.le_of_ble_eq_true rfl⟩ hl rfl rfl (Nat.le_of_ble_eq_true rfl) dX13_readLand_37 ⟨Nat.le_of_ble_eq_true rfl, Nat.le_of_ble_eq_true rfl⟩ (fun z26443 F H locs hT hz26443 => ?_)
    obtain ⟨hz26443, yz26443, ⟨soz26443, spz26443, faz26443, qsoz26443, qspz26443, qfaz26443, rsoz26443, rspz26443, rfaz26443, stz26443, ptz26443, hkf⟩⟩ := hz26443
    have qz26435 := (yz26443.1 _ 12 (Or.inr (by decide)) (Or.inr (by decide)) (Or.inr (by decide)) (Or.inr (by decide)) (Or.inl (by rw [gx0]; decide)) (Or.inr (by decide)) (Or.inr (by decide)) (Or.inr (by decide))).trans qz26435
    have qz26436 := (yz26443.1 _ 7 (Or.inr (by decide)) (Or.inr (by decide)) (Or.inr (by decide)) (Or.inr (by decide)) (Or.inr (by decide)) (Or.inr (by decide)) (Or.inr (by decide)) (Or.inr (by decide))).trans qz26436
    have qz26437 := (yz26443.1 _ 8 (Or.inl (by rw [gx0]; decide)) (Or.inr (by decide)) (Or.inr (by decide)) (Or.inr (by decide)) (Or.inr (by decide)) (Or.inr (by decide)) (Or.inr (by decide)) (Or.inr (by decide))).trans qz26437
    have qz26438 := (yz26443.1 _ 9 (Or.inr (by decide)) (Or.inl (by rw [gx0]; decide)) (Or.inr (by decide)) (Or.inr (by decide)) (Or.inr (by decide)) (Or.inr (by decide)) (Or.inr (by decide)) (Or.inr (by decide))).trans qz26438
    have qz26439 := (yz26443.1 _ 10 (Or.inr (by decide)) (Or.inr (by decide)) (Or.inl (by rw [gx0]; decide)) (Or.inr (by decide)) (Or.inr (by decide)) (Or.inr (by decide)) (Or.inr (by decide)) (Or.inr (by decide))).trans qz26439
    have qz26440 := (yz26443.1 _ 0 (Or.inr (by decide)) (Or.inr (by decide)) (Or.inr (by decide)) (Or.inr (by decide)) (Or.inr (by decide)) (Or.inr (by decide)) (Or.inr (by decide)) (Or.inr (by decide))).trans qz26440
    have pf0 := (yz26443.1 _ 4 (Or.inr (by decide)) (Or.inr (by decide)) (Or.inr (by decide)) (Or.inr (by decide)) (Or.inr (by decide)) (Or.inr (by decide)) (Or.inr (by decide)) (Or.inr (by decide))).trans pf0
    have pf1 := (yz26443.1 _ 28 (Or.inr (by decide)) (Or.inr (by decide)) (Or.inr (by decide)) (Or.inr (by decide)) (Or.inr (by decide)) (Or.inr (by decide)) (Or.inr (by decide)) (Or.inr (by decide))).trans pf1
    have pf2 := (yz26443.1 _ 29 (Or.inr (by decide)) (Or.inr (by decide)) (Or.inr (by decide)) (Or.inr (by decide)) (Or.inr (by decide)) (Or.inr (by decide)) (Or.inr (by decide)) (Or.inr (by decide))).trans pf2
    have hfr : (∀ b j : Nat, (tag b ≠ 44 ∨ j ≠ 0) → (tag b ≠ 44 ∨ j ≠ 1) → (tag b ≠ 44 ∨ j ≠ 13) → (tag b ≠ 44 ∨ j ≠ 14) → (tag b ≠ 46 ∨ j ≠ 8) → (tag b ≠ 46 ∨ j ≠ 9) → (tag b ≠ 46 ∨ j ≠ 10) → (tag b ≠ 46 ∨ j ≠ 11) → (tag b ≠ 46 ∨ j ≠ 12) → (tag b ≠ 46 ∨ j ≠ 13) → (tag b ≠ 46 ∨ j ≠ 14) → (tag b ≠ 46 ∨ j ≠ 15) → fld F b j = fld Fo b j) ∧ (∀ b j : Nat, elm F b j = elm Fo b j) := ⟨fun b j n44_0 n44_1 n44_13 n44_14 n46_8 n46_9 n46_10 n46_11 n46_12 n46_13 n46_14 n46_15 => (yz26443.1 b j n46_8 n46_9 n46_10 n46_11 n46_12 n46_13 n46_14 n46_15).trans (hfr.1 b j n44_0 n44_1 n44_13 n44_14 n46_8 n46_9 n46_10 n46_11 n46_12 n46_13 n46_14 n46_15), fun b j  => (yz26443.2 b j ).trans (hfr.2 b j )⟩
    have hstk := STK.tr hstk stz26443
    have hspt := SPT.tr hspt ptz26443
    refine lv_istore_n (lv' := [(2, .int z26443), (1, .int z26442), (0, .ref p0)]) hx hb dX13_readLand_40 rfl hl (by decide) rfl (fun ls hl => ?_)
    refine lv_aload_n hx hb dX13_readLand_41 rfl (lv_at hl 2 rfl) ?_
    refine m_ldcKw X 42 rfl dX13_readLand_42 ?_
    refine t_cVv (n := 1) (C := RX13) (T := TX13) (N := 37) (As := [.ref (G.2 (100 + 42))]) (rest := []) X hT (km40_X13_needs l G tag L F hT.2.2.2 p0 42 x0 x1 x2 soz26443 spz26443 faz26443 m0 g0 (by decide) mx0 gx0 pf0 mx1 gx1 pf1 mx2 gx2 pf2 (by omega) qsoz26443 (by omega) qspz26443 (by omega) qfaz26443 hkf) m0 g0 rfl rfl qw_556 qw_557 qw_558 qw_5 qw_559 ⟨rfl, by decide +kernel, by decide +kernel, by decide +kernel⟩ ⟨Nat.le_of_ble_eq_true rfl, Nat.le_of_ble_eq_true rfl⟩ hl rfl rfl (Nat.le_of_ble_eq_true rfl) dX13_readLand_45 ⟨Nat.le_of_ble_eq_true rfl, Nat.le_of_ble_eq_true rfl⟩ (fun F H locs hT hz26444 => ?_)
    obtain ⟨yz26444, ⟨soz26444, spz26444, faz26444, qsoz26444, qspz26444, qfaz26444, rsoz26444, rspz26444, rfaz26444, stz26444, ptz26444, hkf⟩⟩ := hz26444
    have qz26435 := (yz26444.1 _ 12 (Or.inr (by decide)) (Or.inr (by decide)) (Or.inr (by decide)) (Or.inr (by decide)) (Or.inl (by rw [gx0]; decide)) (Or.inr (by decide)) (Or.inr (by decide)) (Or.inr (by decide))).trans qz26435
    have qz26436 := (yz26444.1 _ 7 (Or.inr (by decide)) (Or.inr (by decide)) (Or.inr (by decide)) (Or.inr (by decide)) (Or.inr (by decide)) (Or.inr (by decide)) (Or.inr (by decide)) (Or.inr (by decide))).trans qz26436
    have qz26437 := (yz26444.1 _ 8 (Or.inl (by rw [gx0]; decide)) (Or.inr (by decide)) (Or.inr (by decide)) (Or.inr (by decide)) (Or.inr (by decide)) (Or.inr (by decide)) (Or.inr (by decide)) (Or.inr (by decide))).trans qz26437
    have qz26438 := (yz26444.1 _ 9 (Or.inr (by decide)) (Or.inl (by rw [gx0]; decide)) (Or.inr (by decide)) (Or.inr (by decide)) (Or.inr (by decide)) (Or.inr (by decide)) (Or.inr (by decide)) (Or.inr (by decide))).trans qz26438
    have qz26439 := (yz26444.1 _ 10 (Or.inr (by decide)) (Or.inr (by decide)) (Or.inl (by rw [gx0]; decide)) (Or.inr (by decide)) (Or.inr (by decide)) (Or.inr (by decide)) (Or.inr (by decide)) (Or.inr (by decide))).trans qz26439
    have qz26440 := (yz26444.1 _ 0 (Or.inr (by decide)) (Or.inr (by decide)) (Or.inr (by decide)) (Or.inr (by decide)) (Or.inr (by decide)) (Or.inr (by decide)) (Or.inr (by decide)) (Or.inr (by decide))).trans qz26440
    have pf0 := (yz26444.1 _ 4 (Or.inr (by decide)) (Or.inr (by decide)) (Or.inr (by decide)) (Or.inr (by decide)) (Or.inr (by decide)) (Or.inr (by decide)) (Or.inr (by decide)) (Or.inr (by decide))).trans pf0
    have pf1 := (yz26444.1 _ 28 (Or.inr (by decide)) (Or.inr (by decide)) (Or.inr (by decide)) (Or.inr (by decide)) (Or.inr (by decide)) (Or.inr (by decide)) (Or.inr (by decide)) (Or.inr (by decide))).trans pf1
    have pf2 := (yz26444.1 _ 29 (Or.inr (by decide)) (Or.inr (by decide)) (Or.inr (by decide)) (Or.inr (by decide)) (Or.inr (by decide)) (Or.inr (by decide)) (Or.inr (by decide)) (Or.inr (by decide))).trans pf2
    have hfr : (∀ b j : Nat, (tag b ≠ 44 ∨ j ≠ 0) → (tag b ≠ 44 ∨ j ≠ 1) → (tag b ≠ 44 ∨ j ≠ 13) → (tag b ≠ 44 ∨ j ≠ 14) → (tag b ≠ 46 ∨ j ≠ 8) → (tag b ≠ 46 ∨ j ≠ 9) → (tag b ≠ 46 ∨ j ≠ 10) → (tag b ≠ 46 ∨ j ≠ 11) → (tag b ≠ 46 ∨ j ≠ 12) → (tag b ≠ 46 ∨ j ≠ 13) → (tag b ≠ 46 ∨ j ≠ 14) → (tag b ≠ 46 ∨ j ≠ 15) → fld F b j = fld Fo b j) ∧ (∀ b j : Nat, elm F b j = elm Fo b j) := ⟨fun b j n44_0 n44_1 n44_13 n44_14 n46_8 n46_9 n46_10 n46_11 n46_12 n46_13 n46_14 n46_15 => (yz26444.1 b j n46_8 n46_9 n46_10 n46_11 n46_12 n46_13 n46_14 n46_15).trans (hfr.1 b j n44_0 n44_1 n44_13 n44_14 n46_8 n46_9 n46_10 n46_11 n46_12 n46_13 n46_14 n46_15), fun b j  => (yz26444.2 b j ).trans (hfr.2 b j )⟩
    have hstk := STK.tr hstk stz26444
    have hspt := SPT.tr hspt ptz26444
    refine lv_aload_n hx hb dX13_readLand_48 rfl (lv_at hl 2 rfl) ?_
    refine m_ldcKw X 43 rfl dX13_readLand_49 ?_
    refine t_cVi (n := 1) (C := RX13) (T := TX13) (N := 37) (As := [.ref (G.2 (100 + 43))]) (rest := []) X hT (km9_X13_isWord l G tag L F hT.2.2.2 p0 43 soz26444 m0 g0 (by decide) (by omega) qsoz26444) m0 g0 rfl rfl qw_535 qw_536 qw_537 qw_5 qw_538 ⟨rfl, by decide +kernel, by decide +kernel, by decide +kernel⟩ ⟨Nat.le_of_ble_eq_true rfl, Nat.le_of_ble_eq_true rfl⟩ hl rfl rfl (Nat.le_of_ble_eq_true rfl) dX13_readLand_52 ⟨Nat.le_of_ble_eq_true rfl, Nat.le_of_ble_eq_true rfl⟩ (fun z26445 F9 H locs hT hz26445 => ?_)
    obtain ⟨fz26445, hz26445, xz26445_0⟩ := hz26445
    rw [fz26445] at hT
    refine lv_istore_n (lv' := [(3, .int z26445), (2, .int z26443), (1, .int z26442), (0, .ref p0)]) hx hb dX13_readLand_55 rfl hl (by decide) rfl (fun ls hl => ?_)
    refine lv_iload_n hx hb dX13_readLand_56 rfl (lv_at hl 0 rfl) ?_
    refine lv_if_ne (tgt := 75) hx hb dX13_readLand_57 (by decide) (fun c26446 => ?_) (fun c26446 => ?_)
    · have w26447 := cv_ne (rfl : z26445.toInt = z26445.toInt) (by decide : (0 : Int32).toInt = 0) c26446
      exact K75 z26442 z26443 z26445 z26435 z26436 z26437 z26438 z26439 z26440 soz26444 spz26444 faz26444 _ _ _ _ (by omega) (by omega) (by omega) (by omega) (by omega) (by omega) (by omega) (by omega) (by omega) (by omega) (by omega) (by omega) hT hfr pf0 pf1 pf2 qz26435 qz26436 qz26437 qz26438 qz26439 qz26440 qsoz26444 qspz26444 qfaz26444 hstk hspt hkf hpl (lv_sub hl [3, 2, 1, 0] rfl)
    · have w26448 := cv_eq (rfl : z26445.toInt = z26445.toInt) (by decide : (0 : Int32).toInt = 0) c26446
      refine lv_aload_n hx hb dX13_readLand_60 rfl (lv_at hl 3 rfl) ?_
      refine m_ldcKw X 44 rfl dX13_readLand_61 ?_
      refine t_cVi (n := 1) (C := RX13) (T := TX13) (N := 37) (As := [.ref (G.2 (100 + 44))]) (rest := []) X hT (km9_X13_isWord l G tag L F hT.2.2.2 p0 44 soz26444 m0 g0 (by decide) (by omega) qsoz26444) m0 g0 rfl rfl qw_535 qw_536 qw_537 qw_5 qw_538 ⟨rfl, by decide +kernel, by decide +kernel, by decide +kernel⟩ ⟨Nat.le_of_ble_eq_true rfl, Nat.le_of_ble_eq_true rfl⟩ hl rfl rfl (Nat.le_of_ble_eq_true rfl) dX13_readLand_64 ⟨Nat.le_of_ble_eq_true rfl, Nat.le_of_ble_eq_true rfl⟩ (fun z26449 F9 H locs hT hz26449 => ?_)
      obtain ⟨fz26449, hz26449, xz26449_0⟩ := hz26449
      rw [fz26449] at hT
      refine lv_if_ne (tgt := 75) hx hb dX13_readLand_67 (by decide) (fun c26450 => ?_) (fun c26450 => ?_)
      · have w26451 := cv_ne (rfl : z26449.toInt = z26449.toInt) (by decide : (0 : Int32).toInt = 0) c26450
        exact K75 z26442 z26443 z26445 z26435 z26436 z26437 z26438 z26439 z26440 soz26444 spz26444 faz26444 _ _ _ _ (by omega) (by omega) (by omega) (by omega) (by omega) (by omega) (by omega) (by omega) (by omega) (by omega) (by omega) (by omega) hT hfr pf0 pf1 pf2 qz26435 qz26436 qz26437 qz26438 qz26439 qz26440 qsoz26444 qspz26444 qfaz26444 hstk hspt hkf hpl (lv_sub hl [3, 2, 1, 0] rfl)
      · have w26452 := cv_eq (rfl : z26449.toInt = z26449.toInt) (by decide : (0 : Int32).toInt = 0) c26450
        refine lv_aload_n hx hb dX13_readLand_70 rfl (lv_at hl 3 rfl) ?_
        refine lv_iconst (v := 1) hx hb dX13_readLand_71 (by decide) ?_
        refine t_cVv (n := 1) (C := RX13) (T := TX13) (N := 37) (As := [.int 1]) (rest := []) X hT (km10_X13_flaw l G tag L F hT.2.2.2 p0 1 x0 x1 x2 soz26444 spz26444 faz26444 m0 g0 (by decide) mx0 gx0 pf0 mx1 gx1 pf1 mx2 gx2 pf2 (by omega) qsoz26444 (by omega) qspz26444 (by omega) qfaz26444 hkf) m0 g0 rfl rfl qw_548 qw_549 qw_550 qw_5 qw_551 ⟨rfl, by decide +kernel, by decide +kernel, by decide +kernel⟩ ⟨Nat.le_of_ble_eq_true rfl, Nat.le_of_ble_eq_true rfl⟩ hl rfl rfl (Nat.le_of_ble_eq_true rfl) dX13_readLand_72 ⟨Nat.le_of_ble_eq_true rfl, Nat.le_of_ble_eq_true rfl⟩ (fun F H locs hT hz26453 => ?_)
        obtain ⟨yz26453, ⟨soz26453, spz26453, faz26453, qsoz26453, qspz26453, qfaz26453, rsoz26453, rspz26453, rfaz26453, stz26453, ptz26453, hkf, pxz26453_0⟩⟩ := hz26453
        have qz26435 := (yz26453.1 _ 12 (Or.inr (by decide)) (Or.inr (by decide)) (Or.inr (by decide))).trans qz26435
        have qz26436 := (yz26453.1 _ 7 (Or.inr (by decide)) (Or.inr (by decide)) (Or.inr (by decide))).trans qz26436
        have qz26437 := (yz26453.1 _ 8 (Or.inr (by decide)) (Or.inr (by decide)) (Or.inr (by decide))).trans qz26437
        have qz26438 := (yz26453.1 _ 9 (Or.inl (by rw [gx0]; decide)) (Or.inr (by decide)) (Or.inr (by decide))).trans qz26438
        have qz26439 := (yz26453.1 _ 10 (Or.inr (by decide)) (Or.inr (by decide)) (Or.inr (by decide))).trans qz26439
        have qz26440 := (yz26453.1 _ 0 (Or.inr (by decide)) (Or.inr (by decide)) (Or.inr (by decide))).trans qz26440
        have pf0 := (yz26453.1 _ 4 (Or.inr (by decide)) (Or.inr (by decide)) (Or.inr (by decide))).trans pf0
        have pf1 := (yz26453.1 _ 28 (Or.inr (by decide)) (Or.inr (by decide)) (Or.inr (by decide))).trans pf1
        have pf2 := (yz26453.1 _ 29 (Or.inr (by decide)) (Or.inr (by decide)) (Or.inr (by decide))).trans pf2
        have qspz26444 := (yz26453.1 _ 8 (Or.inr (by decide)) (Or.inr (by decide)) (Or.inr (by decide))).trans qspz26444
        have hfr : (∀ b j : Nat, (tag b ≠ 44 ∨ j ≠ 0) → (tag b ≠ 44 ∨ j ≠ 1) → (tag b ≠ 44 ∨ j ≠ 13) → (tag b ≠ 44 ∨ j ≠ 14) → (tag b ≠ 46 ∨ j ≠ 8) → (tag b ≠ 46 ∨ j ≠ 9) → (tag b ≠ 46 ∨ j ≠ 10) → (tag b ≠ 46 ∨ j ≠ 11) → (tag b ≠ 46 ∨ j ≠ 12) → (tag b ≠ 46 ∨ j ≠ 13) → (tag b ≠ 46 ∨ j ≠ 14) → (tag b ≠ 46 ∨ j ≠ 15) → fld F b j = fld Fo b j) ∧ (∀ b j : Nat, elm F b j = elm Fo b j) := ⟨fun b j n44_0 n44_1 n44_13 n44_14 n46_8 n46_9 n46_10 n46_11 n46_12 n46_13 n46_14 n46_15 => (yz26453.1 b j n46_9 n46_13 n46_14).trans (hfr.1 b j n44_0 n44_1 n44_13 n44_14 n46_8 n46_9 n46_10 n46_11 n46_12 n46_13 n46_14 n46_15), fun b j  => (yz26453.2 b j ).trans (hfr.2 b j )⟩
        have hstk := STK.tr hstk stz26453
        have hspt := SPT.tr hspt ptz26453
        exact K75 z26442 z26443 z26445 z26435 z26436 z26437 z26438 z26439 z26440 soz26453 spz26453 faz26453 _ _ _ _ (by omega) (by omega) (by omega) (by omega) (by omega) (by omega) (by omega) (by omega) (by omega) (by omega) (by omega) (by omega) hT hfr pf0 pf1 pf2 qz26435 qz26436 qz26437 qz26438 qz26439 qz26440 qsoz26453 qspz26453 qfaz26453 hstk hspt hkf hpl (lv_sub hl [3, 2, 1, 0] rfl)
  refine lv_aload_n hx hb dX13_readLand_0 rfl (lv_at hl 0 rfl) ?_
  refine t_get (C := RX13) (T := TX13) (N := 37) X hT m0 g0 rfl rfl 4 (by decide) qw_477 inlX13 rfl dX13_readLand_1 (fun v26454 hv26454 ov26454 => ?_)
  obtain rfl : v26454 = .ref x0 := hv26454.symm.trans pf0
  refine t_getN (C := RX12) (T := TX12) (N := 31) X hT mx0 gx0 rfl rfl 0 (by decide) (List.mem_of_getElem? (i := 4) rfl) inlX12 rfl dX13_readLand_4 (fun v26455 hv26455 ov26455 => ?_)
  obtain rfl : v26455 = .int x11 := hv26455.symm.trans pf11
  refine lv_if_le (tgt := 15) hx hb dX13_readLand_7 (by decide) (fun c26456 => ?_) (fun c26456 => ?_)
  · have w26457 := cv_le (rfl : x11.toInt = x11.toInt) (by decide : (0 : Int32).toInt = 0) c26456
    exact K15 x3 x4 x5 x6 x7 x8 x9 x10 x11 _ _ _ _ (by omega) (by omega) (by omega) (by omega) (by omega) (by omega) (by omega) (by omega) (by omega) hT hfr pf0 pf1 pf2 pf3 pf4 pf5 pf6 pf7 pf8 pf9 pf10 pf11 hstk hspt hkf hpl (lv_sub hl [0] rfl)
  · have w26458 := cv_nle (rfl : x11.toInt = x11.toInt) (by decide : (0 : Int32).toInt = 0) c26456
    refine lv_aload_n hx hb dX13_readLand_10 rfl (lv_at hl 0 rfl) ?_
    refine lv_iconst (v := 3) hx hb dX13_readLand_11 (by decide) ?_
    refine t_cVv (n := 1) (C := RX13) (T := TX13) (N := 37) (As := [.int 3]) (rest := []) X hT (km10_X13_flaw l G tag L F hT.2.2.2 p0 3 x0 x1 x2 x3 x4 x5 m0 g0 (by decide) mx0 gx0 pf0 mx1 gx1 pf1 mx2 gx2 pf2 (by omega) pf3 (by omega) pf4 (by omega) pf5 hkf) m0 g0 rfl rfl qw_548 qw_549 qw_550 qw_5 qw_551 ⟨rfl, by decide +kernel, by decide +kernel, by decide +kernel⟩ ⟨Nat.le_of_ble_eq_true rfl, Nat.le_of_ble_eq_true rfl⟩ hl rfl rfl (Nat.le_of_ble_eq_true rfl) dX13_readLand_12 ⟨Nat.le_of_ble_eq_true rfl, Nat.le_of_ble_eq_true rfl⟩ (fun F H locs hT hz26459 => ?_)
    obtain ⟨yz26459, ⟨soz26459, spz26459, faz26459, qsoz26459, qspz26459, qfaz26459, rsoz26459, rspz26459, rfaz26459, stz26459, ptz26459, hkf, pxz26459_0⟩⟩ := hz26459
    have pf0 := (yz26459.1 _ 4 (Or.inr (by decide)) (Or.inr (by decide)) (Or.inr (by decide))).trans pf0
    have pf1 := (yz26459.1 _ 28 (Or.inr (by decide)) (Or.inr (by decide)) (Or.inr (by decide))).trans pf1
    have pf2 := (yz26459.1 _ 29 (Or.inr (by decide)) (Or.inr (by decide)) (Or.inr (by decide))).trans pf2
    have pf4 := (yz26459.1 _ 8 (Or.inr (by decide)) (Or.inr (by decide)) (Or.inr (by decide))).trans pf4
    have pf6 := (yz26459.1 _ 12 (Or.inr (by decide)) (Or.inr (by decide)) (Or.inr (by decide))).trans pf6
    have pf7 := (yz26459.1 _ 7 (Or.inr (by decide)) (Or.inr (by decide)) (Or.inr (by decide))).trans pf7
    have pf8 := (yz26459.1 _ 8 (Or.inr (by decide)) (Or.inr (by decide)) (Or.inr (by decide))).trans pf8
    have pf9 := (yz26459.1 _ 9 (Or.inl (by rw [gx0]; decide)) (Or.inr (by decide)) (Or.inr (by decide))).trans pf9
    have pf10 := (yz26459.1 _ 10 (Or.inr (by decide)) (Or.inr (by decide)) (Or.inr (by decide))).trans pf10
    have pf11 := (yz26459.1 _ 0 (Or.inr (by decide)) (Or.inr (by decide)) (Or.inr (by decide))).trans pf11
    have hfr : (∀ b j : Nat, (tag b ≠ 44 ∨ j ≠ 0) → (tag b ≠ 44 ∨ j ≠ 1) → (tag b ≠ 44 ∨ j ≠ 13) → (tag b ≠ 44 ∨ j ≠ 14) → (tag b ≠ 46 ∨ j ≠ 8) → (tag b ≠ 46 ∨ j ≠ 9) → (tag b ≠ 46 ∨ j ≠ 10) → (tag b ≠ 46 ∨ j ≠ 11) → (tag b ≠ 46 ∨ j ≠ 12) → (tag b ≠ 46 ∨ j ≠ 13) → (tag b ≠ 46 ∨ j ≠ 14) → (tag b ≠ 46 ∨ j ≠ 15) → fld F b j = fld Fo b j) ∧ (∀ b j : Nat, elm F b j = elm Fo b j) := ⟨fun b j n44_0 n44_1 n44_13 n44_14 n46_8 n46_9 n46_10 n46_11 n46_12 n46_13 n46_14 n46_15 => (yz26459.1 b j n46_9 n46_13 n46_14).trans (hfr.1 b j n44_0 n44_1 n44_13 n44_14 n46_8 n46_9 n46_10 n46_11 n46_12 n46_13 n46_14 n46_15), fun b j  => (yz26459.2 b j ).trans (hfr.2 b j )⟩
    have hstk := STK.tr hstk stz26459
    have hspt := SPT.tr hspt ptz26459
    exact K15 soz26459 spz26459 faz26459 x6 x7 x8 x9 x10 x11 _ _ _ _ (by omega) (by omega) (by omega) (by omega) (by omega) (by omega) (by omega) (by omega) (by omega) hT hfr pf0 pf1 pf2 qsoz26459 qspz26459 qfaz26459 pf6 pf7 pf8 pf9 pf10 pf11 hstk hspt hkf hpl (lv_sub hl [0] rfl)
