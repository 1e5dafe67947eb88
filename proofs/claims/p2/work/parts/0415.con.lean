set_option maxHeartbeats 4000000 in
set_option maxRecDepth 100000 in
theorem km78_X13_readPart (l : Launch) (G : KG) (tag : Nat → Nat) (L : List Nat) (Fo : Nat → va_E) (ho : okT G ttC tag L Fo) (p0 : Nat) (p1 : Nat) (p2 : Int32) (p3 : Int32) (x0 : Nat) (x1 : Nat) (x2 : Nat) (x3 : Int32) (x4 : Int32) (x5 : Int32) (m0 : p0 ∈ L) (g0 : tag p0 = 46) (h1 : p1 < 77) (h2 : 3 ≤ p2.toInt ∧ p2.toInt ≤ 3) (h3 : 12 ≤ p3.toInt ∧ p3.toInt ≤ 12) (mx0 : x0 ∈ L) (gx0 : tag x0 = 44) (pf0 : fld Fo p0 4 = .ref x0) (mx1 : x1 ∈ L) (gx1 : tag x1 = 35) (pf1 : fld Fo x0 28 = .ref x1) (mx2 : x2 ∈ L) (gx2 : tag x2 = 36) (pf2 : fld Fo x0 29 = .ref x2) (hx3 : 0 ≤ x3.toInt ∧ x3.toInt ≤ 5) (pf3 : fld Fo p0 9 = .int x3) (hx4 : 0 ≤ x4.toInt ∧ x4.toInt ≤ 1000) (pf4 : fld Fo p0 8 = .int x4) (hx5 : 0 ≤ x5.toInt ∧ x5.toInt ≤ 7) (pf5 : fld Fo p0 13 = .int x5) (hkf : KF x3 x5) : TMi l yX13_readPart cX13_readPart 4 (some .int) { frames := 7, cells := 0, slots := 0, locals := 150 } G ttC tag L Fo [.ref p0, .ref (G.2 (100 + p1)), .int p2, .int p3] (fun r F1 => (3 ≤ r.toInt ∧ r.toInt ≤ 12) ∧ ((∀ b j : Nat, (tag b ≠ 46 ∨ j ≠ 8) → (tag b ≠ 46 ∨ j ≠ 9) → (tag b ≠ 46 ∨ j ≠ 10) → (tag b ≠ 46 ∨ j ≠ 11) → (tag b ≠ 46 ∨ j ≠ 12) → (tag b ≠ 46 ∨ j ≠ 13) → (tag b ≠ 46 ∨ j ≠ 14) → (tag b ≠ 46 ∨ j ≠ 15) → fld F1 b j = fld Fo b j) ∧ (∀ b j : Nat, elm F1 b j = elm Fo b j)) ∧ (∃ so sp fa : Int32, fld F1 p0 9 = .int so ∧ fld F1 p0 8 = .int sp ∧ fld F1 p0 13 = .int fa ∧ (0 ≤ so.toInt ∧ so.toInt ≤ 5) ∧ (0 ≤ sp.toInt ∧ sp.toInt ≤ 1000) ∧ (0 ≤ fa.toInt ∧ fa.toInt ≤ 7) ∧ STK x3 so ∧ SPT x3 x4 so sp ∧ KF so fa)) := by
  refine t_bodyi (y := yX13_readPart) (cd := cX13_readPart) (mL := 4) (rt := (some .int)) (rm := { frames := 7, cells := 0, slots := 0, locals := 150 }) (av := [.ref p0, .ref (G.2 (100 + p1)), .int p2, .int p3]) (by decide) (Nat.le_of_ble_eq_true rfl) ho ?_
  intro p e s m args below meth c ls A Q hQ X hT hl
  have hx := X.1.1
  have hb := X.1.2.1
  have hl : lv_has ls 4 [(0, .ref p0), (1, .ref (G.2 (100 + p1))), (2, .int p2), (3, .int p3)] := hl
  obtain ⟨F, hFo⟩ : ∃ F : Nat → va_E, F = Fo := ⟨_, rfl⟩
  rw [← hFo] at hT pf0 pf1 pf2 pf3 pf4 pf5
  have hfr : (∀ b j : Nat, (tag b ≠ 46 ∨ j ≠ 8) → (tag b ≠ 46 ∨ j ≠ 9) → (tag b ≠ 46 ∨ j ≠ 10) → (tag b ≠ 46 ∨ j ≠ 11) → (tag b ≠ 46 ∨ j ≠ 12) → (tag b ≠ 46 ∨ j ≠ 13) → (tag b ≠ 46 ∨ j ≠ 14) → (tag b ≠ 46 ∨ j ≠ 15) → fld F b j = fld Fo b j) ∧ (∀ b j : Nat, elm F b j = elm Fo b j) := by
    rw [hFo]
    exact ⟨by intros; rfl, by intros; rfl⟩
  have hstk : STK x3 x3 := STK.rf
  have hspt : SPT x3 x4 x3 x4 := SPT.rf
  refine lv_aload_n hx hb dX13_readPart_0 rfl (lv_at hl 0 rfl) ?_
  refine lv_aload_n hx hb dX13_readPart_1 rfl (lv_at hl 1 rfl) ?_
  refine t_cVv (n := 1) (C := RX13) (T := TX13) (N := 37) (As := [.ref (G.2 (100 + p1))]) (rest := []) X hT (km40_X13_needs l G tag L F hT.2.2.2 p0 p1 x0 x1 x2 x3 x4 x5 m0 g0 h1 mx0 gx0 pf0 mx1 gx1 pf1 mx2 gx2 pf2 (by omega) pf3 (by omega) pf4 (by omega) pf5 hkf) m0 g0 rfl rfl qw_556 qw_557 qw_558 qw_5 qw_559 ⟨rfl, by decide +kernel, by decide +kernel, by decide +kernel⟩ ⟨Nat.le_of_ble_eq_true rfl, Nat.le_of_ble_eq_true rfl⟩ hl rfl rfl (Nat.le_of_ble_eq_true rfl) dX13_readPart_2 ⟨Nat.le_of_ble_eq_true rfl, Nat.le_of_ble_eq_true rfl⟩ (fun F H locs hT hz26055 => ?_)
  obtain ⟨yz26055, ⟨soz26055, spz26055, faz26055, qsoz26055, qspz26055, qfaz26055, rsoz26055, rspz26055, rfaz26055, stz26055, ptz26055, hkf⟩⟩ := hz26055
  have pf0 := (yz26055.1 _ 4 (Or.inr (by decide)) (Or.inr (by decide)) (Or.inr (by decide)) (Or.inr (by decide)) (Or.inr (by decide)) (Or.inr (by decide)) (Or.inr (by decide)) (Or.inr (by decide))).trans pf0
  have pf1 := (yz26055.1 _ 28 (Or.inr (by decide)) (Or.inr (by decide)) (Or.inr (by decide)) (Or.inr (by decide)) (Or.inr (by decide)) (Or.inr (by decide)) (Or.inr (by decide)) (Or.inr (by decide))).trans pf1
  have pf2 := (yz26055.1 _ 29 (Or.inr (by decide)) (Or.inr (by decide)) (Or.inr (by decide)) (Or.inr (by decide)) (Or.inr (by decide)) (Or.inr (by decide)) (Or.inr (by decide)) (Or.inr (by decide))).trans pf2
  have hfr : (∀ b j : Nat, (tag b ≠ 46 ∨ j ≠ 8) → (tag b ≠ 46 ∨ j ≠ 9) → (tag b ≠ 46 ∨ j ≠ 10) → (tag b ≠ 46 ∨ j ≠ 11) → (tag b ≠ 46 ∨ j ≠ 12) → (tag b ≠ 46 ∨ j ≠ 13) → (tag b ≠ 46 ∨ j ≠ 14) → (tag b ≠ 46 ∨ j ≠ 15) → fld F b j = fld Fo b j) ∧ (∀ b j : Nat, elm F b j = elm Fo b j) := ⟨fun b j n46_8 n46_9 n46_10 n46_11 n46_12 n46_13 n46_14 n46_15 => (yz26055.1 b j n46_8 n46_9 n46_10 n46_11 n46_12 n46_13 n46_14 n46_15).trans (hfr.1 b j n46_8 n46_9 n46_10 n46_11 n46_12 n46_13 n46_14 n46_15), fun b j  => (yz26055.2 b j ).trans (hfr.2 b j )⟩
  have hstk := STK.tr hstk stz26055
  have hspt := SPT.tr hspt ptz26055
  refine lv_aload_n hx hb dX13_readPart_5 rfl (lv_at hl 0 rfl) ?_
  refine lv_iload_n hx hb dX13_readPart_6 rfl (lv_at hl 2 rfl) ?_
  refine lv_iload_n hx hb dX13_readPart_7 rfl (lv_at hl 3 rfl) ?_
  refine t_cVi (n := 2) (C := RX13) (T := TX13) (N := 37) (As := [.int p2, .int p3]) (rest := []) X hT (km77_X13_readWhole l G tag L F hT.2.2.2 p0 p2 p3 x0 x1 x2 soz26055 spz26055 faz26055 m0 g0 (by omega) (by omega) mx0 gx0 pf0 mx1 gx1 pf1 mx2 gx2 pf2 (by omega) qsoz26055 (by omega) qspz26055 (by omega) qfaz26055 hkf) m0 g0 rfl rfl qw_560 qw_561 qw_562 qw_5 qw_563 ⟨rfl, by decide +kernel, by decide +kernel, by decide +kernel⟩ ⟨Nat.le_of_ble_eq_true rfl, Nat.le_of_ble_eq_true rfl⟩ hl rfl rfl (Nat.le_of_ble_eq_true rfl) dX13_readPart_8 ⟨Nat.le_of_ble_eq_true rfl, Nat.le_of_ble_eq_true rfl⟩ (fun z26056 F H locs hT hz26056 => ?_)
  obtain ⟨hz26056, yz26056, ⟨soz26056, spz26056, faz26056, qsoz26056, qspz26056, qfaz26056, rsoz26056, rspz26056, rfaz26056, stz26056, ptz26056, hkf⟩⟩ := hz26056
  have pf0 := (yz26056.1 _ 4 (Or.inr (by decide)) (Or.inr (by decide)) (Or.inr (by decide)) (Or.inr (by decide)) (Or.inr (by decide)) (Or.inr (by decide)) (Or.inr (by decide)) (Or.inr (by decide))).trans pf0
  have pf1 := (yz26056.1 _ 28 (Or.inr (by decide)) (Or.inr (by decide)) (Or.inr (by decide)) (Or.inr (by decide)) (Or.inr (by decide)) (Or.inr (by decide)) (Or.inr (by decide)) (Or.inr (by decide))).trans pf1
  have pf2 := (yz26056.1 _ 29 (Or.inr (by decide)) (Or.inr (by decide)) (Or.inr (by decide)) (Or.inr (by decide)) (Or.inr (by decide)) (Or.inr (by decide)) (Or.inr (by decide)) (Or.inr (by decide))).trans pf2
  have hfr : (∀ b j : Nat, (tag b ≠ 46 ∨ j ≠ 8) → (tag b ≠ 46 ∨ j ≠ 9) → (tag b ≠ 46 ∨ j ≠ 10) → (tag b ≠ 46 ∨ j ≠ 11) → (tag b ≠ 46 ∨ j ≠ 12) → (tag b ≠ 46 ∨ j ≠ 13) → (tag b ≠ 46 ∨ j ≠ 14) → (tag b ≠ 46 ∨ j ≠ 15) → fld F b j = fld Fo b j) ∧ (∀ b j : Nat, elm F b j = elm Fo b j) := ⟨fun b j n46_8 n46_9 n46_10 n46_11 n46_12 n46_13 n46_14 n46_15 => (yz26056.1 b j n46_8 n46_9 n46_10 n46_11 n46_12 n46_13 n46_14 n46_15).trans (hfr.1 b j n46_8 n46_9 n46_10 n46_11 n46_12 n46_13 n46_14 n46_15), fun b j  => (yz26056.2 b j ).trans (hfr.2 b j )⟩
  have hstk := STK.tr hstk stz26056
  have hspt := SPT.tr hspt ptz26056
  exact t_iret hQ X hT (⟨(by omega), hfr, ⟨soz26056, spz26056, faz26056, qsoz26056, qspz26056, qfaz26056, (by omega), (by omega), (by omega), hstk, hspt, hkf⟩⟩) (Nat.le_of_ble_eq_true rfl) (Nat.le_of_ble_eq_true rfl) dX13_readPart_11
set_option maxHeartbeats 4000000 in
set_option maxRecDepth 100000 in
theorem km79_X13_readLand (l : Launch) (G : KG) (tag : Nat → Nat) (L : List Nat) (Fo : Nat → va_E) (ho : okT G ttC tag L Fo) (p0 : Nat) (x0 : Nat) (x1 : Nat) (x2 : Nat) (x3 : Int32) (x4 : Int32) (x5 : Int32) (x6 : Int32) (x7 : Int32) (x8 : Int32) (x9 : Int32) (x10 : Int32) (x11 : Int32) (m0 : p0 ∈ L) (g0 : tag p0 = 46) (mx0 : x0 ∈ L) (gx0 : tag x0 = 44) (pf0 : fld Fo p0 4 = .ref x0) (mx1 : x1 ∈ L) (gx1 : tag x1 = 35) (pf1 : fld Fo x0 28 = .ref x1) (mx2 : x2 ∈ L) (gx2 : tag x2 = 36) (pf2 : fld Fo x0 29 = .ref x2) (hx3 : 0 ≤ x3.toInt ∧ x3.toInt ≤ 5) (pf3 : fld Fo p0 9 = .int x3) (hx4 : 0 ≤ x4.toInt ∧ x4.toInt ≤ 1000) (pf4 : fld Fo p0 8 = .int x4) (hx5 : 0 ≤ x5.toInt ∧ x5.toInt ≤ 7) (pf5 : fld Fo p0 13 = .int x5) (hx6 : 0 ≤ x6.toInt ∧ x6.toInt ≤ 32) (pf6 : fld Fo x0 12 = .int x6) (hx7 : 0 ≤ x7.toInt ∧ x7.toInt ≤ 4) (pf7 : fld Fo x0 7 = .int x7) (hx8 : 0 ≤ x8.toInt ∧ x8.toInt ≤ 4) (pf8 : fld Fo x0 8 = .int x8) (hx9 : 0 ≤ x9.toInt ∧ x9.toInt ≤ 6) (pf9 : fld Fo x0 9 = .int x9) (hx10 : 0 ≤ x10.toInt ∧ x10.toInt ≤ 6) (pf10 : fld Fo x0 10 = .int x10) (hx11 : 0 ≤ x11.toInt ∧ x11.toInt ≤ 12) (pf11 : fld Fo x0 0 = .int x11) (hkf : KF x3 x5) (hpl : PLr x6 x7 x8 x9 x10 x11) : TMv l yX13_readLand cX13_readLand 5 { frames := 8, cells := 0, slots := 0, locals := 173 } G ttC tag L Fo [.ref p0] (fun F1 => ((∀ b j : Nat, (tag b ≠ 44 ∨ j ≠ 0) → (tag b ≠ 44 ∨ j ≠ 1) → (tag b ≠ 44 ∨ j ≠ 13) → (tag b ≠ 44 ∨ j ≠ 14) → (tag b ≠ 46 ∨ j ≠ 8) → (tag b ≠ 46 ∨ j ≠ 9) → (tag b ≠ 46 ∨ j ≠ 10) → (tag b ≠ 46 ∨ j ≠ 11) → (tag b ≠ 46 ∨ j ≠ 12) → (tag b ≠ 46 ∨ j ≠ 13) → (tag b ≠ 46 ∨ j ≠ 14) → (tag b ≠ 46 ∨ j ≠ 15) → fld F1 b j = fld Fo b j) ∧ (∀ b j : Nat, elm F1 b j = elm Fo b j)) ∧ (∃ so sp fa : Int32, fld F1 p0 9 = .int so ∧ fld F1 p0 8 = .int sp ∧ fld F1 p0 13 = .int fa ∧ (0 ≤ so.toInt ∧ so.toInt ≤ 5) ∧ (0 ≤ sp.toInt ∧ sp.toInt ≤ 1000) ∧ (0 ≤ fa.toInt ∧ fa.toInt ≤ 7) ∧ STK x3 so ∧ SPT x3 x4 so sp ∧ KF so fa) ∧ (∃ na st ho he wa wi : Int32, fld F1 x0 12 = .int na ∧ fld F1 x0 7 = .int st ∧ fld F1 x0 8 = .int ho ∧ fld F1 x0 9 = .int he ∧ fld F1 x0 10 = .int wa ∧ fld F1 x0 0 = .int wi ∧ (0 ≤ na.toInt ∧ na.toInt ≤ 32) ∧ (0 ≤ st.toInt ∧ st.toInt ≤ 4) ∧ (0 ≤ ho.toInt ∧ ho.toInt ≤ 4) ∧ (0 ≤ he.toInt ∧ he.toInt ≤ 6) ∧ (0 ≤ wa.toInt ∧ wa.toInt ≤ 6) ∧ (0 ≤ wi.toInt ∧ wi.toInt ≤ 12) ∧ PLr na st ho he wa wi)) := by
  refine t_bodyv (y := yX13_readLand) (cd := cX13_readLand) (mL := 5) (rm := { frames := 8, cells := 0, slots := 0, locals := 173 }) (av := [.ref p0]) (by decide) (Nat.le_of_ble_eq_true rfl) ho ?_
  intro p e s m args below meth c ls A Q hQ X hT hl
  have hx := X.1.1
  have hb := X.1.2.1
  have hl : lv_has ls 5 [(0, .ref p0)] := hl
  obtain ⟨F, hFo⟩ : ∃ F : Nat → va_E, F = Fo := ⟨_, rfl⟩
  rw [← hFo] at hT pf0 pf1 pf2 pf3 pf4 pf5 pf6 pf7 pf8 pf9 pf10 pf11
  have hfr : (∀ b j : Nat, (tag b ≠ 44 ∨ j ≠ 0) → (tag b ≠ 44 ∨ j ≠ 1) → (tag b ≠ 44 ∨ j ≠ 13) → (tag b ≠ 44 ∨ j ≠ 14) → (tag b ≠ 46 ∨ j ≠ 8) → (tag b ≠ 46 ∨ j ≠ 9) → (tag b ≠ 46 ∨ j ≠ 10) → (tag b ≠ 46 ∨ j ≠ 11) → (tag b ≠ 46 ∨ j ≠ 12) → (tag b ≠ 46 ∨ j ≠ 13) → (tag b ≠ 46 ∨ j ≠ 14) → (tag b ≠ 46 ∨ j ≠ 15) → fld F b j = fld Fo b j) ∧ (∀ b j : Nat, elm F b j = elm Fo b j) := by
    rw [hFo]
    exact ⟨by intros; rfl, by intros; rfl⟩
  have hstk : STK x3 x3 := STK.rf
  have hspt : SPT x3 x4 x3 x4 := SPT.rf
  have hpu := hpl
  unfold PLr at hpu
  have K115 : ∀ (z26560 : Int32) (z26561 : Int32) (z26562 : Int32) (z26563 : Int32) (z26564 : Int32) (z26565 : Int32) (z26566 : Int32) (z26567 : Int32) (z26568 : Int32) (z26569 : Int32) (z26570 : Int32) (z26571 : Int32) (z26572 : Int32) (F : Nat → va_E) (H : Heap) (locs : List Loc) (ls : Array Slot), (3 ≤ z26560.toInt ∧ z26560.toInt ≤ 12) → (3 ≤ z26561.toInt ∧ z26561.toInt ≤ 12) → (0 ≤ z26562.toInt ∧ z26562.toInt ≤ 1) → (0 ≤ z26563.toInt ∧ z26563.toInt ≤ 1) → (0 ≤ z26564.toInt ∧ z26564.toInt ≤ 32) → (0 ≤ z26565.toInt ∧ z26565.toInt ≤ 4) → (0 ≤ z26566.toInt ∧ z26566.toInt ≤ 4) → (0 ≤ z26567.toInt ∧ z26567.toInt ≤ 6) → (0 ≤ z26568.toInt ∧ z26568.toInt ≤ 6) → (0 ≤ z26569.toInt ∧ z26569.toInt ≤ 12) → (0 ≤ z26570.toInt ∧ z26570.toInt ≤ 5) → (0 ≤ z26571.toInt ∧ z26571.toInt ≤ 1000) → (0 ≤ z26572.toInt ∧ z26572.toInt ≤ 7) → TH G ttC A s tag L F H locs → ((∀ b j : Nat, (tag b ≠ 44 ∨ j ≠ 0) → (tag b ≠ 44 ∨ j ≠ 1) → (tag b ≠ 44 ∨ j ≠ 13) → (tag b ≠ 44 ∨ j ≠ 14) → (tag b ≠ 46 ∨ j ≠ 8) → (tag b ≠ 46 ∨ j ≠ 9) → (tag b ≠ 46 ∨ j ≠ 10) → (tag b ≠ 46 ∨ j ≠ 11) → (tag b ≠ 46 ∨ j ≠ 12) → (tag b ≠ 46 ∨ j ≠ 13) → (tag b ≠ 46 ∨ j ≠ 14) → (tag b ≠ 46 ∨ j ≠ 15) → fld F b j = fld Fo b j) ∧ (∀ b j : Nat, elm F b j = elm Fo b j)) → (fld F p0 4 = .ref x0) → (fld F x0 28 = .ref x1) → (fld F x0 29 = .ref x2) → (fld F x0 12 = .int z26564) → (fld F x0 7 = .int z26565) → (fld F x0 8 = .int z26566) → (fld F x0 9 = .int z26567) → (fld F x0 10 = .int z26568) → (fld F x0 0 = .int z26569) → (fld F p0 9 = .int z26570) → (fld F p0 8 = .int z26571) → (fld F p0 13 = .int z26572) → (STK x3 z26570) → (SPT x3 x4 z26570 z26571) → (KF z26570 z26572) → (PLr z26564 z26565 z26566 z26567 z26568 z26569) → lv_has ls 5 [(0, .ref p0), (1, .int z26560), (2, .int z26561), (3, .int z26562), (4, .int z26563)] → W p l e { frames := 8, cells := 0, slots := 0, locals := 173 } s m args below meth c H locs 0 0 Q (F0 m 115 ls []) := by
    intro z26560 z26561 z26562 z26563 z26564 z26565 z26566 z26567 z26568 z26569 z26570 z26571 z26572 F H locs ls rz26560 rz26561 rz26562 rz26563 rz26564 rz26565 rz26566 rz26567 rz26568 rz26569 rz26570 rz26571 rz26572 hT hfr pf0 pf1 pf2 qz26564 qz26565 qz26566 qz26567 qz26568 qz26569 qz26570 qz26571 qz26572 hstk hspt hkf hpl hl
    refine lv_aload_n hx hb dX13_readLand_115 rfl (lv_at hl 0 rfl) ?_
    refine t_cVv (n := 0) (C := RX13) (T := TX13) (N := 37) (As := []) (rest := []) X hT (km14_X13_goesOn l G tag L F hT.2.2.2 p0 x0 x1 x2 z26570 z26571 z26572 m0 g0 mx0 gx0 pf0 mx1 gx1 pf1 mx2 gx2 pf2 (by omega) qz26570 (by omega) qz26571 (by omega) qz26572 hkf) m0 g0 rfl rfl qw_508 qw_509 qw_510 qw_5 qw_511 ⟨rfl, by decide +kernel, by decide +kernel, by decide +kernel⟩ ⟨Nat.le_of_ble_eq_true rfl, Nat.le_of_ble_eq_true rfl⟩ hl rfl rfl (Nat.le_of_ble_eq_true rfl) dX13_readLand_116 ⟨Nat.le_of_ble_eq_true rfl, Nat.le_of_ble_eq_true rfl⟩ (fun F H locs hT hz26573 => ?_)
    obtain ⟨yz26573, ⟨soz26573, spz26573, faz26573, qsoz26573, qspz26573, qfaz26573, rsoz26573, rspz26573, rfaz26573, stz26573, ptz26573, hkf⟩⟩ := hz26573
    have qz26564 := (yz26573.1 _ 12 (Or.inr (by decide)) (Or.inr (by decide)) (Or.inr (by decide)) (Or.inr (by decide)) (Or.inl (by rw [gx0]; decide)) (Or.inr (by decide))).trans qz26564
    have qz26565 := (yz26573.1 _ 7 (Or.inr (by decide)) (Or.inr (by decide)) (Or.inr (by decide)) (Or.inr (by decide)) (Or.inr (by decide)) (Or.inr (by decide))).trans qz26565
    have qz26566 := (yz26573.1 _ 8 (Or.inl (by rw [gx0]; decide)) (Or.inr (by decide)) (Or.inr (by decide)) (Or.inr (by decide)) (Or.inr (by decide)) (Or.inr (by decide))).trans qz26566
    have qz26567 := (yz26573.1 _ 9 (Or.inr (by decide)) (Or.inl (by rw [gx0]; decide)) (Or.inr (by decide)) (Or.inr (by decide)) (Or.inr (by decide)) (Or.inr (by decide))).trans qz26567
    have qz26568 := (yz26573.1 _ 10 (Or.inr (by decide)) (Or.inr (by decide)) (Or.inl (by rw [gx0]; decide)) (Or.inr (by decide)) (Or.inr (by decide)) (Or.inr (by decide))).trans qz26568
    have qz26569 := (yz26573.1 _ 0 (Or.inr (by decide)) (Or.inr (by decide)) (Or.inr (by decide)) (Or.inr (by decide)) (Or.inr (by decide)) (Or.inr (by decide))).trans qz26569
    have qz26572 := (yz26573.1 _ 13 (Or.inr (by decide)) (Or.inr (by decide)) (Or.inr (by decide)) (Or.inr (by decide)) (Or.inr (by decide)) (Or.inr (by decide))).trans qz26572
    have pf0 := (yz26573.1 _ 4 (Or.inr (by decide)) (Or.inr (by decide)) (Or.inr (by decide)) (Or.inr (by decide)) (Or.inr (by decide)) (Or.inr (by decide))).trans pf0
    have pf1 := (yz26573.1 _ 28 (Or.inr (by decide)) (Or.inr (by decide)) (Or.inr (by decide)) (Or.inr (by decide)) (Or.inr (by decide)) (Or.inr (by decide))).trans pf1
    have pf2 := (yz26573.1 _ 29 (Or.inr (by decide)) (Or.inr (by decide)) (Or.inr (by decide)) (Or.inr (by decide)) (Or.inr (by decide)) (Or.inr (by decide))).trans pf2
    have hfr : (∀ b j : Nat, (tag b ≠ 44 ∨ j ≠ 0) → (tag b ≠ 44 ∨ j ≠ 1) → (tag b ≠ 44 ∨ j ≠ 13) → (tag b ≠ 44 ∨ j ≠ 14) → (tag b ≠ 46 ∨ j ≠ 8) → (tag b ≠ 46 ∨ j ≠ 9) → (tag b ≠ 46 ∨ j ≠ 10) → (tag b ≠ 46 ∨ j ≠ 11) → (tag b ≠ 46 ∨ j ≠ 12) → (tag b ≠ 46 ∨ j ≠ 13) → (tag b ≠ 46 ∨ j ≠ 14) → (tag b ≠ 46 ∨ j ≠ 15) → fld F b j = fld Fo b j) ∧ (∀ b j : Nat, elm F b j = elm Fo b j) := ⟨fun b j n44_0 n44_1 n44_13 n44_14 n46_8 n46_9 n46_10 n46_11 n46_12 n46_13 n46_14 n46_15 => (yz26573.1 b j n46_8 n46_9 n46_10 n46_11 n46_12 n46_15).trans (hfr.1 b j n44_0 n44_1 n44_13 n44_14 n46_8 n46_9 n46_10 n46_11 n46_12 n46_13 n46_14 n46_15), fun b j  => (yz26573.2 b j ).trans (hfr.2 b j )⟩
    have hstk := STK.tr hstk stz26573
    have hspt := SPT.tr hspt ptz26573
    refine lv_aload_n hx hb dX13_readLand_119 rfl (lv_at hl 0 rfl) ?_
    refine t_get (C := RX13) (T := TX13) (N := 37) X hT m0 g0 rfl rfl 9 (by decide) qw_478 inlX13 rfl dX13_readLand_120 (fun v26574 hv26574 ov26574 => ?_)
    obtain rfl : v26574 = .int soz26573 := hv26574.symm.trans qsoz26573
    refine lv_iconst (v := 5) hx hb dX13_readLand_123 (by decide) ?_
    refine lv_icmp_ne (tgt := 128) hx hb dX13_readLand_124 (by decide) (fun c26575 => ?_) (fun c26575 => ?_)
    · have w26576 := cv_ne (rfl : soz26573.toInt = soz26573.toInt) (by decide : (5 : Int32).toInt = 5) c26575
      refine lv_aload_n hx hb dX13_readLand_128 rfl (lv_at hl 0 rfl) ?_
      refine t_get (C := RX13) (T := TX13) (N := 37) X hT m0 g0 rfl rfl 4 (by decide) qw_477 inlX13 rfl dX13_readLand_129 (fun v26577 hv26577 ov26577 => ?_)
      obtain rfl : v26577 = .ref x0 := hv26577.symm.trans pf0
      refine lv_iload_n hx hb dX13_readLand_132 rfl (lv_at hl 1 rfl) ?_
      refine t_putN (C := RX12) (T := TX12) (N := 31) (v := .int z26560) X hT mx0 gx0 rfl tyX12 tyX12_ok nmX12 rfl 0 (by decide) (List.mem_of_getElem? (i := 4) rfl) inlX12 rfl (by first | rfl | decide) (by first | rfl | decide) rfl (⟨_, rfl, (show 0 ≤ (z26560 : Int32).toInt from (by omega)), (show (z26560 : Int32).toInt ≤ 12 from (by omega))⟩) dX13_readLand_133 (fun F H locs hT v26578 h1v26578 h2v26578 => ?_)
      have qz26564 := (h1v26578 _ _ (Or.inr (by decide))).trans qz26564
      have qz26565 := (h1v26578 _ _ (Or.inr (by decide))).trans qz26565
      have qz26566 := (h1v26578 _ _ (Or.inr (by decide))).trans qz26566
      have qz26567 := (h1v26578 _ _ (Or.inr (by decide))).trans qz26567
      have qz26568 := (h1v26578 _ _ (Or.inr (by decide))).trans qz26568
      have qfaz26573 := (h1v26578 _ _ (Or.inr (by decide))).trans qfaz26573
      have pf0 := (h1v26578 _ _ (Or.inr (by decide))).trans pf0
      have pf1 := (h1v26578 _ _ (Or.inr (by decide))).trans pf1
      have pf2 := (h1v26578 _ _ (Or.inr (by decide))).trans pf2
      have qsoz26573 := (h1v26578 _ _ (Or.inr (by decide))).trans qsoz26573
      have qspz26573 := (h1v26578 _ _ (Or.inr (by decide))).trans qspz26573
      have hfr : (∀ b j : Nat, (tag b ≠ 44 ∨ j ≠ 0) → (tag b ≠ 44 ∨ j ≠ 1) → (tag b ≠ 44 ∨ j ≠ 13) → (tag b ≠ 44 ∨ j ≠ 14) → (tag b ≠ 46 ∨ j ≠ 8) → (tag b ≠ 46 ∨ j ≠ 9) → (tag b ≠ 46 ∨ j ≠ 10) → (tag b ≠ 46 ∨ j ≠ 11) → (tag b ≠ 46 ∨ j ≠ 12) → (tag b ≠ 46 ∨ j ≠ 13) → (tag b ≠ 46 ∨ j ≠ 14) → (tag b ≠ 46 ∨ j ≠ 15) → fld F b j = fld Fo b j) ∧ (∀ b j : Nat, elm F b j = elm Fo b j) := ⟨fun b j n44_0 n44_1 n44_13 n44_14 n46_8 n46_9 n46_10 n46_11 n46_12 n46_13 n46_14 n46_15 => (h1v26578 b j (fr_ne gx0 n44_0)).trans (hfr.1 b j n44_0 n44_1 n44_13 n44_14 n46_8 n46_9 n46_10 n46_11 n46_12 n46_13 n46_14 n46_15), fun b j  => (h2v26578 b j).trans (hfr.2 b j )⟩
      refine lv_aload_n hx hb dX13_readLand_136 rfl (lv_at hl 0 rfl) ?_
      refine t_get (C := RX13) (T := TX13) (N := 37) X hT m0 g0 rfl rfl 4 (by decide) qw_477 inlX13 rfl dX13_readLand_137 (fun v26579 hv26579 ov26579 => ?_)
      obtain rfl : v26579 = .ref x0 := hv26579.symm.trans pf0
      refine lv_iload_n hx hb dX13_readLand_140 rfl (lv_at hl 2 rfl) ?_
      refine t_putN (C := RX12) (T := TX12) (N := 31) (v := .int z26561) X hT mx0 gx0 rfl tyX12 tyX12_ok nmX12 rfl 1 (by decide) (List.mem_of_getElem? (i := 5) rfl) inlX12 rfl (by first | rfl | decide) (by first | rfl | decide) rfl (⟨_, rfl, (show 0 ≤ (z26561 : Int32).toInt from (by omega)), (show (z26561 : Int32).toInt ≤ 12 from (by omega))⟩) dX13_readLand_141 (fun F H locs hT v26580 h1v26580 h2v26580 => ?_)
      have qz26564 := (h1v26580 _ _ (Or.inr (by decide))).trans qz26564
      have qz26565 := (h1v26580 _ _ (Or.inr (by decide))).trans qz26565
      have qz26566 := (h1v26580 _ _ (Or.inr (by decide))).trans qz26566
      have qz26567 := (h1v26580 _ _ (Or.inr (by decide))).trans qz26567
      have qz26568 := (h1v26580 _ _ (Or.inr (by decide))).trans qz26568
      have qfaz26573 := (h1v26580 _ _ (Or.inr (by decide))).trans qfaz26573
      have pf0 := (h1v26580 _ _ (Or.inr (by decide))).trans pf0
      have pf1 := (h1v26580 _ _ (Or.inr (by decide))).trans pf1
      have pf2 := (h1v26580 _ _ (Or.inr (by decide))).trans pf2
      have qsoz26573 := (h1v26580 _ _ (Or.inr (by decide))).trans qsoz26573
      have qspz26573 := (h1v26580 _ _ (Or.inr (by decide))).trans qspz26573
      have v26578 := (h1v26580 _ _ (Or.inr (by decide))).trans v26578
      have hfr : (∀ b j : Nat, (tag b ≠ 44 ∨ j ≠ 0) → (tag b ≠ 44 ∨ j ≠ 1) → (tag b ≠ 44 ∨ j ≠ 13) → (tag b ≠ 44 ∨ j ≠ 14) → (tag b ≠ 46 ∨ j ≠ 8) → (tag b ≠ 46 ∨ j ≠ 9) → (tag b ≠ 46 ∨ j ≠ 10) → (tag b ≠ 46 ∨ j ≠ 11) → (tag b ≠ 46 ∨ j ≠ 12) → (tag b ≠ 46 ∨ j ≠ 13) → (tag b ≠ 46 ∨ j ≠ 14) → (tag b ≠ 46 ∨ j ≠ 15) → fld F b j = fld Fo b j) ∧ (∀ b j : Nat, elm F b j = elm Fo b j) := ⟨fun b j n44_0 n44_1 n44_13 n44_14 n46_8 n46_9 n46_10 n46_11 n46_12 n46_13 n46_14 n46_15 => (h1v26580 b j (fr_ne gx0 n44_1)).trans (hfr.1 b j n44_0 n44_1 n44_13 n44_14 n46_8 n46_9 n46_10 n46_11 n46_12 n46_13 n46_14 n46_15), fun b j  => (h2v26580 b j).trans (hfr.2 b j )⟩
      refine lv_aload_n hx hb dX13_readLand_144 rfl (lv_at hl 0 rfl) ?_
      refine t_get (C := RX13) (T := TX13) (N := 37) X hT m0 g0 rfl rfl 4 (by decide) qw_477 inlX13 rfl dX13_readLand_145 (fun v26581 hv26581 ov26581 => ?_)
      obtain rfl : v26581 = .ref x0 := hv26581.symm.trans pf0
      refine lv_iload_n hx hb dX13_readLand_148 rfl (lv_at hl 3 rfl) ?_
      refine t_putN (C := RX12) (T := TX12) (N := 31) (v := .int z26562) X hT mx0 gx0 rfl tyX12 tyX12_ok nmX12 rfl 13 (by decide) (List.mem_of_getElem? (i := 17) rfl) inlX12 rfl (nar_z (by omega)) (fit_z (by omega)) rfl (⟨_, rfl, (show 0 ≤ (z26562 : Int32).toInt from (by omega)), (show (z26562 : Int32).toInt ≤ 1 from (by omega))⟩) dX13_readLand_149 (fun F H locs hT v26582 h1v26582 h2v26582 => ?_)
      have qz26564 := (h1v26582 _ _ (Or.inr (by decide))).trans qz26564
      have qz26565 := (h1v26582 _ _ (Or.inr (by decide))).trans qz26565
      have qz26566 := (h1v26582 _ _ (Or.inr (by decide))).trans qz26566
      have qz26567 := (h1v26582 _ _ (Or.inr (by decide))).trans qz26567
      have qz26568 := (h1v26582 _ _ (Or.inr (by decide))).trans qz26568
      have qfaz26573 := (h1v26582 _ _ (Or.inl (tne g0 gx0 (by decide)))).trans qfaz26573
      have pf0 := (h1v26582 _ _ (Or.inr (by decide))).trans pf0
      have pf1 := (h1v26582 _ _ (Or.inr (by decide))).trans pf1
      have pf2 := (h1v26582 _ _ (Or.inr (by decide))).trans pf2
      have qsoz26573 := (h1v26582 _ _ (Or.inr (by decide))).trans qsoz26573
      have qspz26573 := (h1v26582 _ _ (Or.inr (by decide))).trans qspz26573
      have v26578 := (h1v26582 _ _ (Or.inr (by decide))).trans v26578
      have v26580 := (h1v26582 _ _ (Or.inr (by decide))).trans v26580
      have hfr : (∀ b j : Nat, (tag b ≠ 44 ∨ j ≠ 0) → (tag b ≠ 44 ∨ j ≠ 1) → (tag b ≠ 44 ∨ j ≠ 13) → (tag b ≠ 44 ∨ j ≠ 14) → (tag b ≠ 46 ∨ j ≠ 8) → (tag b ≠ 46 ∨ j ≠ 9) → (tag b ≠ 46 ∨ j ≠ 10) → (tag b ≠ 46 ∨ j ≠ 11) → (tag b ≠ 46 ∨ j ≠ 12) → (tag b ≠ 46 ∨ j ≠ 13) → (tag b ≠ 46 ∨ j ≠ 14) → (tag b ≠ 46 ∨ j ≠ 15) → fld F b j = fld Fo b j) ∧ (∀ b j : Nat, elm F b j = elm Fo b j) := ⟨fun b j n44_0 n44_1 n44_13 n44_14 n46_8 n46_9 n46_10 n46_11 n46_12 n46_13 n46_14 n46_15 => (h1v26582 b j (fr_ne gx0 n44_13)).trans (hfr.1 b j n44_0 n44_1 n44_13 n44_14 n46_8 n46_9 n46_10 n46_11 n46_12 n46_13 n46_14 n46_15), fun b j  => (h2v26582 b j).trans (hfr.2 b j )⟩
      refine lv_aload_n hx hb dX13_readLand_152 rfl (lv_at hl 0 rfl) ?_
      refine t_get (C := RX13) (T := TX13) (N := 37) X hT m0 g0 rfl rfl 4 (by decide) qw_477 inlX13 rfl dX13_readLand_153 (fun v26583 hv26583 ov26583 => ?_)
      obtain rfl : v26583 = .ref x0 := hv26583.symm.trans pf0
      refine lv_iload hx hb dX13_readLand_156 (lv_at hl 4 rfl) ?_
      refine t_putN (C := RX12) (T := TX12) (N := 31) (v := .int z26563) X hT mx0 gx0 rfl tyX12 tyX12_ok nmX12 rfl 14 (by decide) (List.mem_of_getElem? (i := 18) rfl) inlX12 rfl (nar_z (by omega)) (fit_z (by omega)) rfl (⟨_, rfl, (show 0 ≤ (z26563 : Int32).toInt from (by omega)), (show (z26563 : Int32).toInt ≤ 1 from (by omega))⟩) dX13_readLand_158 (fun F H locs hT v26584 h1v26584 h2v26584 => ?_)
      have qz26564 := (h1v26584 _ _ (Or.inr (by decide))).trans qz26564
      have qz26565 := (h1v26584 _ _ (Or.inr (by decide))).trans qz26565
      have qz26566 := (h1v26584 _ _ (Or.inr (by decide))).trans qz26566
      have qz26567 := (h1v26584 _ _ (Or.inr (by decide))).trans qz26567
      have qz26568 := (h1v26584 _ _ (Or.inr (by decide))).trans qz26568
      have qfaz26573 := (h1v26584 _ _ (Or.inr (by decide))).trans qfaz26573
      have pf0 := (h1v26584 _ _ (Or.inr (by decide))).trans pf0
      have pf1 := (h1v26584 _ _ (Or.inr (by decide))).trans pf1
      have pf2 := (h1v26584 _ _ (Or.inr (by decide))).trans pf2
      have qsoz26573 := (h1v26584 _ _ (Or.inr (by decide))).trans qsoz26573
      have qspz26573 := (h1v26584 _ _ (Or.inr (by decide))).trans qspz26573
      have v26578 := (h1v26584 _ _ (Or.inr (by decide))).trans v26578
      have v26580 := (h1v26584 _ _ (Or.inr (by decide))).trans v26580
      have v26582 := (h1v26584 _ _ (Or.inr (by decide))).trans v26582
      have hfr : (∀ b j : Nat, (tag b ≠ 44 ∨ j ≠ 0) → (tag b ≠ 44 ∨ j ≠ 1) → (tag b ≠ 44 ∨ j ≠ 13) → (tag b ≠ 44 ∨ j ≠ 14) → (tag b ≠ 46 ∨ j ≠ 8) → (tag b ≠ 46 ∨ j ≠ 9) → (tag b ≠ 46 ∨ j ≠ 10) → (tag b ≠ 46 ∨ j ≠ 11) → (tag b ≠ 46 ∨ j ≠ 12) → (tag b ≠ 46 ∨ j ≠ 13) → (tag b ≠ 46 ∨ j ≠ 14) → (tag b ≠ 46 ∨ j ≠ 15) → fld F b j = fld Fo b j) ∧ (∀ b j : Nat, elm F b j = elm Fo b j) := ⟨fun b j n44_0 n44_1 n44_13 n44_14 n46_8 n46_9 n46_10 n46_11 n46_12 n46_13 n46_14 n46_15 => (h1v26584 b j (fr_ne gx0 n44_14)).trans (hfr.1 b j n44_0 n44_1 n44_13 n44_14 n46_8 n46_9 n46_10 n46_11 n46_12 n46_13 n46_14 n46_15), fun b j  => (h2v26584 b j).trans (hfr.2 b j )⟩
      have hpu9 := hpl
      unfold PLr at hpu9
      have hpl : PLr z26564 z26565 z26566 z26567 z26568 z26560 := ⟨by omega, fun _ => by omega⟩
      exact t_vret hQ X hT ⟨hfr, ⟨soz26573, spz26573, faz26573, qsoz26573, qspz26573, qfaz26573, (by omega), (by omega), (by omega), hstk, hspt, hkf⟩, ⟨z26564, z26565, z26566, z26567, z26568, z26560, qz26564, qz26565, qz26566, qz26567, qz26568, v26578, (by omega), (by omega), (by omega), (by omega), (by omega), (by omega), hpl⟩⟩ (Nat.le_of_ble_eq_true rfl) (Nat.le_of_ble_eq_true rfl) dX13_readLand_161
    · have w26585 := cv_eq (rfl : soz26573.toInt = soz26573.toInt) (by decide : (5 : Int32).toInt = 5) c26575
      exact t_vret hQ X hT ⟨hfr, ⟨soz26573, spz26573, faz26573, qsoz26573, qspz26573, qfaz26573, (by omega), (by omega), (by omega), hstk, hspt, hkf⟩, ⟨z26564, z26565, z26566, z26567, z26568, z26569, qz26564, qz26565, qz26566, qz26567, qz26568, qz26569, (by omega), (by omega), (by omega), (by omega), (by omega), (by omega), hpl⟩⟩ (Nat.le_of_ble_eq_true rfl) (Nat.le_of_ble_eq_true rfl) dX13_readLand_127
  have K75 : ∀ (z26586 : Int32) (z26587 : Int32) (z26588 : Int32) (z26589 : Int32) (z26590 : Int32) (z26591 : Int32) (z26592 : Int32) (z26593 : Int32) (z26594 : Int32) (z26595 : Int32) (z26596 : Int32) (z26597 : Int32) (F : Nat → va_E) (H : Heap) (locs : List Loc) (ls : Array Slot), (3 ≤ z26586.toInt ∧ z26586.toInt ≤ 12) → (3 ≤ z26587.toInt ∧ z26587.toInt ≤ 12) → (0 ≤ z26588.toInt ∧ z26588.toInt ≤ 1) → (0 ≤ z26589.toInt ∧ z26589.toInt ≤ 32) → (0 ≤ z26590.toInt ∧ z26590.toInt ≤ 4) → (0 ≤ z26591.toInt ∧ z26591.toInt ≤ 4) → (0 ≤ z26592.toInt ∧ z26592.toInt ≤ 6) → (0 ≤ z26593.toInt ∧ z26593.toInt ≤ 6) → (0 ≤ z26594.toInt ∧ z26594.toInt ≤ 12) → (0 ≤ z26595.toInt ∧ z26595.toInt ≤ 5) → (0 ≤ z26596.toInt ∧ z26596.toInt ≤ 1000) → (0 ≤ z26597.toInt ∧ z26597.toInt ≤ 7) → TH G ttC A s tag L F H locs → ((∀ b j : Nat, (tag b ≠ 44 ∨ j ≠ 0) → (tag b ≠ 44 ∨ j ≠ 1) → (tag b ≠ 44 ∨ j ≠ 13) → (tag b ≠ 44 ∨ j ≠ 14) → (tag b ≠ 46 ∨ j ≠ 8) → (tag b ≠ 46 ∨ j ≠ 9) → (tag b ≠ 46 ∨ j ≠ 10) → (tag b ≠ 46 ∨ j ≠ 11) → (tag b ≠ 46 ∨ j ≠ 12) → (tag b ≠ 46 ∨ j ≠ 13) → (tag b ≠ 46 ∨ j ≠ 14) → (tag b ≠ 46 ∨ j ≠ 15) → fld F b j = fld Fo b j) ∧ (∀ b j : Nat, elm F b j = elm Fo b j)) → (fld F p0 4 = .ref x0) → (fld F x0 28 = .ref x1) → (fld F x0 29 = .ref x2) → (fld F x0 12 = .int z26589) → (fld F x0 7 = .int z26590) → (fld F x0 8 = .int z26591) → (fld F x0 9 = .int z26592) → (fld F x0 10 = .int z26593) → (fld F x0 0 = .int z26594) → (fld F p0 9 = .int z26595) → (fld F p0 8 = .int z26596) → (fld F p0 13 = .int z26597) → (STK x3 z26595) → (SPT x3 x4 z26595 z26596) → (KF z26595 z26597) → (PLr z26589 z26590 z26591 z26592 z26593 z26594) → lv_has ls 5 [(0, .ref p0), (1, .int z26586), (2, .int z26587), (3, .int z26588)] → W p l e { frames := 8, cells := 0, slots := 0, locals := 173 } s m args below meth c H locs 0 0 Q (F0 m 75 ls []) := by
    intro z26586 z26587 z26588 z26589 z26590 z26591 z26592 z26593 z26594 z26595 z26596 z26597 F H locs ls rz26586 rz26587 rz26588 rz26589 rz26590 rz26591 rz26592 rz26593 rz26594 rz26595 rz26596 rz26597 hT hfr pf0 pf1 pf2 qz26589 qz26590 qz26591 qz26592 qz26593 qz26594 qz26595 qz26596 qz26597 hstk hspt hkf hpl hl
    refine lv_aload_n hx hb dX13_readLand_75 rfl (lv_at hl 0 rfl) ?_
    refine t_cVv (n := 0) (C := RX13) (T := TX13) (N := 37) (As := []) (rest := []) X hT (km14_X13_goesOn l G tag L F hT.2.2.2 p0 x0 x1 x2 z26595 z26596 z26597 m0 g0 mx0 gx0 pf0 mx1 gx1 pf1 mx2 gx2 pf2 (by omega) qz26595 (by omega) qz26596 (by omega) qz26597 hkf) m0 g0 rfl rfl qw_508 qw_509 qw_510 qw_5 qw_511 ⟨rfl, by decide +kernel, by decide +kernel, by decide +kernel⟩ ⟨Nat.le_of_ble_eq_true rfl, Nat.le_of_ble_eq_true rfl⟩ hl rfl rfl (Nat.le_of_ble_eq_true rfl) dX13_readLand_76 ⟨Nat.le_of_ble_eq_true rfl, Nat.le_of_ble_eq_true rfl⟩ (fun F H locs hT hz26598 => ?_)
    obtain ⟨yz26598, ⟨soz26598, spz26598, faz26598, qsoz26598, qspz26598, qfaz26598, rsoz26598, rspz26598, rfaz26598, stz26598, ptz26598, hkf⟩⟩ := hz26598
    have qz26589 := (yz26598.1 _ 12 (Or.inr (by decide)) (Or.inr (by decide)) (Or.inr (by decide)) (Or.inr (by decide)) (Or.inl (by rw [gx0]; decide)) (Or.inr (by decide))).trans qz26589
    have qz26590 := (yz26598.1 _ 7 (Or.inr (by decide)) (Or.inr (by decide)) (Or.inr (by decide)) (Or.inr (by decide)) (Or.inr (by decide)) (Or.inr (by decide))).trans qz26590
    have qz26591 := (yz26598.1 _ 8 (Or.inl (by rw [gx0]; decide)) (Or.inr (by decide)) (Or.inr (by decide)) (Or.inr (by decide)) (Or.inr (by decide)) (Or.inr (by decide))).trans qz26591
    have qz26592 := (yz26598.1 _ 9 (Or.inr (by decide)) (Or.inl (by rw [gx0]; decide)) (Or.inr (by decide)) (Or.inr (by decide)) (Or.inr (by decide)) (Or.inr (by decide))).trans qz26592
    have qz26593 := (yz26598.1 _ 10 (Or.inr (by decide)) (Or.inr (by decide)) (Or.inl (by rw [gx0]; decide)) (Or.inr (by decide)) (Or.inr (by decide)) (Or.inr (by decide))).trans qz26593
    have qz26594 := (yz26598.1 _ 0 (Or.inr (by decide)) (Or.inr (by decide)) (Or.inr (by decide)) (Or.inr (by decide)) (Or.inr (by decide)) (Or.inr (by decide))).trans qz26594
    have qz26597 := (yz26598.1 _ 13 (Or.inr (by decide)) (Or.inr (by decide)) (Or.inr (by decide)) (Or.inr (by decide)) (Or.inr (by decide)) (Or.inr (by decide))).trans qz26597
    have pf0 := (yz26598.1 _ 4 (Or.inr (by decide)) (Or.inr (by decide)) (Or.inr (by decide)) (Or.inr (by decide)) (Or.inr (by decide)) (Or.inr (by decide))).trans pf0
    have pf1 := (yz26598.1 _ 28 (Or.inr (by decide)) (Or.inr (by decide)) (Or.inr (by decide)) (Or.inr (by decide)) (Or.inr (by decide)) (Or.inr (by decide))).trans pf1
    have pf2 := (yz26598.1 _ 29 (Or.inr (by decide)) (Or.inr (by decide)) (Or.inr (by decide)) (Or.inr (by decide)) (Or.inr (by decide)) (Or.inr (by decide))).trans pf2
    have hfr : (∀ b j : Nat, (tag b ≠ 44 ∨ j ≠ 0) → (tag b ≠ 44 ∨ j ≠ 1) → (tag b ≠ 44 ∨ j ≠ 13) → (tag b ≠ 44 ∨ j ≠ 14) → (tag b ≠ 46 ∨ j ≠ 8) → (tag b ≠ 46 ∨ j ≠ 9) → (tag b ≠ 46 ∨ j ≠ 10) → (tag b ≠ 46 ∨ j ≠ 11) → (tag b ≠ 46 ∨ j ≠ 12) → (tag b ≠ 46 ∨ j ≠ 13) → (tag b ≠ 46 ∨ j ≠ 14) → (tag b ≠ 46 ∨ j ≠ 15) → fld F b j = fld Fo b j) ∧ (∀ b j : Nat, elm F b j = elm Fo b j) := ⟨fun b j n44_0 n44_1 n44_13 n44_14 n46_8 n46_9 n46_10 n46_11 n46_12 n46_13 n46_14 n46_15 => (yz26598.1 b j n46_8 n46_9 n46_10 n46_11 n46_12 n46_15).trans (hfr.1 b j n44_0 n44_1 n44_13 n44_14 n46_8 n46_9 n46_10 n46_11 n46_12 n46_13 n46_14 n46_15), fun b j  => (yz26598.2 b j ).trans (hfr.2 b j )⟩
    have hstk := STK.tr hstk stz26598
    have hspt := SPT.tr hspt ptz26598
    refine lv_aload_n hx hb dX13_readLand_79 rfl (lv_at hl 0 rfl) ?_
    refine m_ldcKw X 45 rfl dX13_readLand_80 ?_
    refine t_cVv (n := 1) (C := RX13) (T := TX13) (N := 37) (As := [.ref (G.2 (100 + 45))]) (rest := []) X hT (km40_X13_needs l G tag L F hT.2.2.2 p0 45 x0 x1 x2 soz26598 spz26598 faz26598 m0 g0 (by decide) mx0 gx0 pf0 mx1 gx1 pf1 mx2 gx2 pf2 (by omega) qsoz26598 (by omega) qspz26598 (by omega) qfaz26598 hkf) m0 g0 rfl rfl qw_556 qw_557 qw_558 qw_5 qw_559 ⟨rfl, by decide +kernel, by decide +kernel, by decide +kernel⟩ ⟨Nat.le_of_ble_eq_true rfl, Nat.le_of_ble_eq_true rfl⟩ hl rfl rfl (Nat.le_of_ble_eq_true rfl) dX13_readLand_83 ⟨Nat.le_of_ble_eq_true rfl, Nat.le_of_ble_eq_true rfl⟩ (fun F H locs hT hz26599 => ?_)
    obtain ⟨yz26599, ⟨soz26599, spz26599, faz26599, qsoz26599, qspz26599, qfaz26599, rsoz26599, rspz26599, rfaz26599, stz26599, ptz26599, hkf⟩⟩ := hz26599
    have qz26589 := (yz26599.1 _ 12 (Or.inr (by decide)) (Or.inr (by decide)) (Or.inr (by decide)) (Or.inr (by decide)) (Or.inl (by rw [gx0]; decide)) (Or.inr (by decide)) (Or.inr (by decide)) (Or.inr (by decide))).trans qz26589
    have qz26590 := (yz26599.1 _ 7 (Or.inr (by decide)) (Or.inr (by decide)) (Or.inr (by decide)) (Or.inr (by decide)) (Or.inr (by decide)) (Or.inr (by decide)) (Or.inr (by decide)) (Or.inr (by decide))).trans qz26590
    have qz26591 := (yz26599.1 _ 8 (Or.inl (by rw [gx0]; decide)) (Or.inr (by decide)) (Or.inr (by decide)) (Or.inr (by decide)) (Or.inr (by decide)) (Or.inr (by decide)) (Or.inr (by decide)) (Or.inr (by decide))).trans qz26591
    have qz26592 := (yz26599.1 _ 9 (Or.inr (by decide)) (Or.inl (by rw [gx0]; decide)) (Or.inr (by decide)) (Or.inr (by decide)) (Or.inr (by decide)) (Or.inr (by decide)) (Or.inr (by decide)) (Or.inr (by decide))).trans qz26592
    have qz26593 := (yz26599.1 _ 10 (Or.inr (by decide)) (Or.inr (by decide)) (Or.inl (by rw [gx0]; decide)) (Or.inr (by decide)) (Or.inr (by decide)) (Or.inr (by decide)) (Or.inr (by decide)) (Or.inr (by decide))).trans qz26593
    have qz26594 := (yz26599.1 _ 0 (Or.inr (by decide)) (Or.inr (by decide)) (Or.inr (by decide)) (Or.inr (by decide)) (Or.inr (by decide)) (Or.inr (by decide)) (Or.inr (by decide)) (Or.inr (by decide))).trans qz26594
    have pf0 := (yz26599.1 _ 4 (Or.inr (by decide)) (Or.inr (by decide)) (Or.inr (by decide)) (Or.inr (by decide)) (Or.inr (by decide)) (Or.inr (by decide)) (Or.inr (by decide)) (Or.inr (by decide))).trans pf0
    have pf1 := (yz26599.1 _ 28 (Or.inr (by decide)) (Or.inr (by decide)) (Or.inr (by decide)) (Or.inr (by decide)) (Or.inr (by decide)) (Or.inr (by decide)) (Or.inr (by decide)) (Or.inr (by decide))).trans pf1
    have pf2 := (yz26599.1 _ 29 (Or.inr (by decide)) (Or.inr (by decide)) (Or.inr (by decide)) (Or.inr (by decide)) (Or.inr (by decide)) (Or.inr (by decide)) (Or.inr (by decide)) (Or.inr (by decide))).trans pf2
    have hfr : (∀ b j : Nat, (tag b ≠ 44 ∨ j ≠ 0) → (tag b ≠ 44 ∨ j ≠ 1) → (tag b ≠ 44 ∨ j ≠ 13) → (tag b ≠ 44 ∨ j ≠ 14) → (tag b ≠ 46 ∨ j ≠ 8) → (tag b ≠ 46 ∨ j ≠ 9) → (tag b ≠ 46 ∨ j ≠ 10) → (tag b ≠ 46 ∨ j ≠ 11) → (tag b ≠ 46 ∨ j ≠ 12) → (tag b ≠ 46 ∨ j ≠ 13) → (tag b ≠ 46 ∨ j ≠ 14) → (tag b ≠ 46 ∨ j ≠ 15) → fld F b j = fld Fo b j) ∧ (∀ b j : Nat, elm F b j = elm Fo b j) := ⟨fun b j n44_0 n44_1 n44_13 n44_14 n46_8 n46_9 n46_10 n46_11 n46_12 n46_13 n46_14 n46_15 => (yz26599.1 b j n46_8 n46_9 n46_10 n46_11 n46_12 n46_13 n46_14 n46_15).trans (hfr.1 b j n44_0 n44_1 n44_13 n44_14 n46_8 n46_9 n46_10 n46_11 n46_12 n46_13 n46_14 n46_15), fun b j  => (yz26599.2 b j ).trans (hfr.2 b j )⟩
    have hstk := STK.tr hstk stz26599
    have hspt := SPT.tr hspt ptz26599
    refine lv_aload_n hx hb dX13_readLand_86 rfl (lv_at hl 0 rfl) ?_
    refine m_ldcKw X 46 rfl dX13_readLand_87 ?_
    refine t_cVi (n := 1) (C := RX13) (T := TX13) (N := 37) (As := [.ref (G.2 (100 + 46))]) (rest := []) X hT (km9_X13_isWord l G tag L F hT.2.2.2 p0 46 soz26599 m0 g0 (by decide) (by omega) qsoz26599) m0 g0 rfl rfl qw_535 qw_536 qw_537 qw_5 qw_538 ⟨rfl, by decide +kernel, by decide +kernel, by decide +kernel⟩ ⟨Nat.le_of_ble_eq_true rfl, Nat.le_of_ble_eq_true rfl⟩ hl rfl rfl (Nat.le_of_ble_eq_true rfl) dX13_readLand_90 ⟨Nat.le_of_ble_eq_true rfl, Nat.le_of_ble_eq_true rfl⟩ (fun z26600 F9 H locs hT hz26600 => ?_)
    obtain ⟨fz26600, hz26600, xz26600_0⟩ := hz26600
    rw [fz26600] at hT
    refine lv_istore (lv' := [(4, .int z26600), (0, .ref p0), (1, .int z26586), (2, .int z26587), (3, .int z26588)]) hx hb dX13_readLand_93 hl (by decide) rfl (fun ls hl => ?_)
    refine lv_iload hx hb dX13_readLand_95 (lv_at hl 0 rfl) ?_
    refine lv_if_ne (tgt := 115) hx hb dX13_readLand_97 (by decide) (fun c26601 => ?_) (fun c26601 => ?_)
    · have w26602 := cv_ne (rfl : z26600.toInt = z26600.toInt) (by decide : (0 : Int32).toInt = 0) c26601
      exact K115 z26586 z26587 z26588 z26600 z26589 z26590 z26591 z26592 z26593 z26594 soz26599 spz26599 faz26599 _ _ _ _ (by omega) (by omega) (by omega) (by omega) (by omega) (by omega) (by omega) (by omega) (by omega) (by omega) (by omega) (by omega) (by omega) hT hfr pf0 pf1 pf2 qz26589 qz26590 qz26591 qz26592 qz26593 qz26594 qsoz26599 qspz26599 qfaz26599 hstk hspt hkf hpl (lv_sub hl [1, 2, 3, 4, 0] rfl)
    · have w26603 := cv_eq (rfl : z26600.toInt = z26600.toInt) (by decide : (0 : Int32).toInt = 0) c26601
      refine lv_aload_n hx hb dX13_readLand_100 rfl (lv_at hl 1 rfl) ?_
      refine m_ldcKw X 47 rfl dX13_readLand_101 ?_
      refine t_cVi (n := 1) (C := RX13) (T := TX13) (N := 37) (As := [.ref (G.2 (100 + 47))]) (rest := []) X hT (km9_X13_isWord l G tag L F hT.2.2.2 p0 47 soz26599 m0 g0 (by decide) (by omega) qsoz26599) m0 g0 rfl rfl qw_535 qw_536 qw_537 qw_5 qw_538 ⟨rfl, by decide +kernel, by decide +kernel, by decide +kernel⟩ ⟨Nat.le_of_ble_eq_true rfl, Nat.le_of_ble_eq_true rfl⟩ hl rfl rfl (Nat.le_of_ble_eq_true rfl) dX13_readLand_104 ⟨Nat.le_of_ble_eq_true rfl, Nat.le_of_ble_eq_true rfl⟩ (fun z26604 F9 H locs hT hz26604 => ?_)
      obtain ⟨fz26604, hz26604, xz26604_0⟩ := hz26604
      rw [fz26604] at hT
      refine lv_if_ne (tgt := 115) hx hb dX13_readLand_107 (by decide) (fun c26605 => ?_) (fun c26605 => ?_)
      · have w26606 := cv_ne (rfl : z26604.toInt = z26604.toInt) (by decide : (0 : Int32).toInt = 0) c26605
        exact K115 z26586 z26587 z26588 z26600 z26589 z26590 z26591 z26592 z26593 z26594 soz26599 spz26599 faz26599 _ _ _ _ (by omega) (by omega) (by omega) (by omega) (by omega) (by omega) (by omega) (by omega) (by omega) (by omega) (by omega) (by omega) (by omega) hT hfr pf0 pf1 pf2 qz26589 qz26590 qz26591 qz26592 qz26593 qz26594 qsoz26599 qspz26599 qfaz26599 hstk hspt hkf hpl (lv_sub hl [1, 2, 3, 4, 0] rfl)
      · have w26607 := cv_eq (rfl : z26604.toInt = z26604.toInt) (by decide : (0 : Int32).toInt = 0) c26605
        refine lv_aload_n hx hb dX13_readLand_110 rfl (lv_at hl 1 rfl) ?_
        refine lv_iconst (v := 1) hx hb dX13_readLand_111 (by decide) ?_
        refine t_cVv (n := 1) (C := RX13) (T := TX13) (N := 37) (As := [.int 1]) (rest := []) X hT (km10_X13_flaw l G tag L F hT.2.2.2 p0 1 x0 x1 x2 soz26599 spz26599 faz26599 m0 g0 (by decide) mx0 gx0 pf0 mx1 gx1 pf1 mx2 gx2 pf2 (by omega) qsoz26599 (by omega) qspz26599 (by omega) qfaz26599 hkf) m0 g0 rfl rfl qw_548 qw_549 qw_550 qw_5 qw_551 ⟨rfl, by decide +kernel, by decide +kernel, by decide +kernel⟩ ⟨Nat.le_of_ble_eq_true rfl, Nat.le_of_ble_eq_true rfl⟩ hl rfl rfl (Nat.le_of_ble_eq_true rfl) dX13_readLand_112 ⟨Nat.le_of_ble_eq_true rfl, Nat.le_of_ble_eq_true rfl⟩ (fun F H locs hT hz26608 => ?_)
        obtain ⟨yz26608, ⟨soz26608, spz26608, faz26608, qsoz26608, qspz26608, qfaz26608, rsoz26608, rspz26608, rfaz26608, stz26608, ptz26608, hkf, pxz26608_0⟩⟩ := hz26608
        have qz26589 := (yz26608.1 _ 12 (Or.inr (by decide)) (Or.inr (by decide)) (Or.inr (by decide))).trans qz26589
        have qz26590 := (yz26608.1 _ 7 (Or.inr (by decide)) (Or.inr (by decide)) (Or.inr (by decide))).trans qz26590
        have qz26591 := (yz26608.1 _ 8 (Or.inr (by decide)) (Or.inr (by decide)) (Or.inr (by decide))).trans qz26591
        have qz26592 := (yz26608.1 _ 9 (Or.inl (by rw [gx0]; decide)) (Or.inr (by decide)) (Or.inr (by decide))).trans qz26592
        have qz26593 := (yz26608.1 _ 10 (Or.inr (by decide)) (Or.inr (by decide)) (Or.inr (by decide))).trans qz26593
        have qz26594 := (yz26608.1 _ 0 (Or.inr (by decide)) (Or.inr (by decide)) (Or.inr (by decide))).trans qz26594
        have pf0 := (yz26608.1 _ 4 (Or.inr (by decide)) (Or.inr (by decide)) (Or.inr (by decide))).trans pf0
        have pf1 := (yz26608.1 _ 28 (Or.inr (by decide)) (Or.inr (by decide)) (Or.inr (by decide))).trans pf1
        have pf2 := (yz26608.1 _ 29 (Or.inr (by decide)) (Or.inr (by decide)) (Or.inr (by decide))).trans pf2
        have qspz26599 := (yz26608.1 _ 8 (Or.inr (by decide)) (Or.inr (by decide)) (Or.inr (by decide))).trans qspz26599
        have hfr : (∀ b j : Nat, (tag b ≠ 44 ∨ j ≠ 0) → (tag b ≠ 44 ∨ j ≠ 1) → (tag b ≠ 44 ∨ j ≠ 13) → (tag b ≠ 44 ∨ j ≠ 14) → (tag b ≠ 46 ∨ j ≠ 8) → (tag b ≠ 46 ∨ j ≠ 9) → (tag b ≠ 46 ∨ j ≠ 10) → (tag b ≠ 46 ∨ j ≠ 11) → (tag b ≠ 46 ∨ j ≠ 12) → (tag b ≠ 46 ∨ j ≠ 13) → (tag b ≠ 46 ∨ j ≠ 14) → (tag b ≠ 46 ∨ j ≠ 15) → fld F b j = fld Fo b j) ∧ (∀ b j : Nat, elm F b j = elm Fo b j) := ⟨fun b j n44_0 n44_1 n44_13 n44_14 n46_8 n46_9 n46_10 n46_11 n46_12 n46_13 n46_14 n46_15 => (yz26608.1 b j n46_9 n46_13 n46_14).trans (hfr.1 b j n44_0 n44_1 n44_13 n44_14 n46_8 n46_9 n46_10 n46_11 n46_12 n46_13 n46_14 n46_15), fun b j  => (yz26608.2 b j ).trans (hfr.2 b j )⟩
        have hstk := STK.tr hstk stz26608
        have hspt := SPT.tr hspt ptz26608
        exact K115 z26586 z26587 z26588 z26600 z26589 z26590 z26591 z26592 z26593 z26594 soz26608 spz26608 faz26608 _ _ _ _ (by omega) (by omega) (by omega) (by omega) (by omega) (by omega) (by omega) (by omega) (by omega) (by omega) (by omega) (by omega) (by omega) hT hfr pf0 pf1 pf2 qz26589 qz26590 qz26591 qz26592 qz26593 qz26594 qsoz26608 qspz26608 qfaz26608 hstk hspt hkf hpl (lv_sub hl [1, 2, 3, 4, 0] rfl)
  have K15 : ∀ (z26609 : Int32) (z26610 : Int32) (z26611 : Int32) (z26612 : Int32) (z26613 : Int32) (z26614 : Int32) (z26615 : Int32) (z26616 : Int32) (z26617 : Int32) (F : Nat → va_E) (H : Heap) (locs : List Loc) (ls : Array Slot), (0 ≤ z26609.toInt ∧ z26609.toInt ≤ 5) → (0 ≤ z26610.toInt ∧ z26610.toInt ≤ 1000) → (0 ≤ z26611.toInt ∧ z26611.toInt ≤ 7) → (0 ≤ z26612.toInt ∧ z26612.toInt ≤ 32) → (0 ≤ z26613.toInt ∧ z26613.toInt ≤ 4) → (0 ≤ z26614.toInt ∧ z26614.toInt ≤ 4) → (0 ≤ z26615.toInt ∧ z26615.toInt ≤ 6) → (0 ≤ z26616.toInt ∧ z26616.toInt ≤ 6) → (0 ≤ z26617.toInt ∧ z26617.toInt ≤ 12) → TH G ttC A s tag L F H locs → ((∀ b j : Nat, (tag b ≠ 44 ∨ j ≠ 0) → (tag b ≠ 44 ∨ j ≠ 1) → (tag b ≠ 44 ∨ j ≠ 13) → (tag b ≠ 44 ∨ j ≠ 14) → (tag b ≠ 46 ∨ j ≠ 8) → (tag b ≠ 46 ∨ j ≠ 9) → (tag b ≠ 46 ∨ j ≠ 10) → (tag b ≠ 46 ∨ j ≠ 11) → (tag b ≠ 46 ∨ j ≠ 12) → (tag b ≠ 46 ∨ j ≠ 13) → (tag b ≠ 46 ∨ j ≠ 14) → (tag b ≠ 46 ∨ j ≠ 15) → fld F b j = fld Fo b j) ∧ (∀ b j : Nat, elm F b j = elm Fo b j)) → (fld F p0 4 = .ref x0) → (fld F x0 28 = .ref x1) → (fld F x0 29 = .ref x2) → (fld F p0 9 = .int z26609) → (fld F p0 8 = .int z26610) → (fld F p0 13 = .int z26611) → (fld F x0 12 = .int z26612) → (fld F x0 7 = .int z26613) → (fld F x0 8 = .int z26614) → (fld F x0 9 = .int z26615) → (fld F x0 10 = .int z26616) → (fld F x0 0 = .int z26617) → (STK x3 z26609) → (SPT x3 x4 z26609 z26610) → (KF z26609 z26611) → (PLr z26612 z26613 z26614 z26615 z26616 z26617) → lv_has ls 5 [(0, .ref p0)] → W p l e { frames := 8, cells := 0, slots := 0, locals := 173 } s m args below meth c H locs 0 0 Q (F0 m 15 ls []) := by
    intro z26609 z26610 z26611 z26612 z26613 z26614 z26615 z26616 z26617 F H locs ls rz26609 rz26610 rz26611 rz26612 rz26613 rz26614 rz26615 rz26616 rz26617 hT hfr pf0 pf1 pf2 qz26609 qz26610 qz26611 qz26612 qz26613 qz26614 qz26615 qz26616 qz26617 hstk hspt hkf hpl hl
    refine lv_aload_n hx hb dX13_readLand_15 rfl (lv_at hl 0 rfl) ?_
    refine t_cVv (n := 0) (C := RX13) (T := TX13) (N := 37) (As := []) (rest := []) X hT (km14_X13_goesOn l G tag L F hT.2.2.2 p0 x0 x1 x2 z26609 z26610 z26611 m0 g0 mx0 gx0 pf0 mx1 gx1 pf1 mx2 gx2 pf2 (by omega) qz26609 (by omega) qz26610 (by omega) qz26611 hkf) m0 g0 rfl rfl qw_508 qw_509 qw_510 qw_5 qw_511 ⟨rfl, by decide +kernel, by decide +kernel, by decide +kernel⟩ ⟨Nat.le_of_ble_eq_true rfl, Nat.le_of_ble_eq_true rfl⟩ hl rfl rfl (Nat.le_of_ble_eq_true rfl) dX13_readLand_16 ⟨Nat.le_of_ble_eq_true rfl, Nat.le_of_ble_eq_true rfl⟩ (fun F H locs hT hz26618 => ?_)
    obtain ⟨yz26618, ⟨soz26618, spz26618, faz26618, qsoz26618, qspz26618, qfaz26618, rsoz26618, rspz26618, rfaz26618, stz26618, ptz26618, hkf⟩⟩ := hz26618
    have qz26611 := (yz26618.1 _ 13 (Or.inr (by decide)) (Or.inr (by decide)) (Or.inr (by decide)) (Or.inr (by decide)) (Or.inr (by decide)) (Or.inr (by decide))).trans qz26611
    have qz26612 := (yz26618.1 _ 12 (Or.inr (by decide)) (Or.inr (by decide)) (Or.inr (by decide)) (Or.inr (by decide)) (Or.inl (by rw [gx0]; decide)) (Or.inr (by decide))).trans qz26612
    have qz26613 := (yz26618.1 _ 7 (Or.inr (by decide)) (Or.inr (by decide)) (Or.inr (by decide)) (Or.inr (by decide)) (Or.inr (by decide)) (Or.inr (by decide))).trans qz26613
    have qz26614 := (yz26618.1 _ 8 (Or.inl (by rw [gx0]; decide)) (Or.inr (by decide)) (Or.inr (by decide)) (Or.inr (by decide)) (Or.inr (by decide)) (Or.inr (by decide))).trans qz26614
    have qz26615 := (yz26618.1 _ 9 (Or.inr (by decide)) (Or.inl (by rw [gx0]; decide)) (Or.inr (by decide)) (Or.inr (by decide)) (Or.inr (by decide)) (Or.inr (by decide))).trans qz26615
    have qz26616 := (yz26618.1 _ 10 (Or.inr (by decide)) (Or.inr (by decide)) (Or.inl (by rw [gx0]; decide)) (Or.inr (by decide)) (Or.inr (by decide)) (Or.inr (by decide))).trans qz26616
    have qz26617 := (yz26618.1 _ 0 (Or.inr (by decide)) (Or.inr (by decide)) (Or.inr (by decide)) (Or.inr (by decide)) (Or.inr (by decide)) (Or.inr (by decide))).trans qz26617
    have pf0 := (yz26618.1 _ 4 (Or.inr (by decide)) (Or.inr (by decide)) (Or.inr (by decide)) (Or.inr (by decide)) (Or.inr (by decide)) (Or.inr (by decide))).trans pf0
    have pf1 := (yz26618.1 _ 28 (Or.inr (by decide)) (Or.inr (by decide)) (Or.inr (by decide)) (Or.inr (by decide)) (Or.inr (by decide)) (Or.inr (by decide))).trans pf1
    have pf2 := (yz26618.1 _ 29 (Or.inr (by decide)) (Or.inr (by decide)) (Or.inr (by decide)) (Or.inr (by decide)) (Or.inr (by decide)) (Or.inr (by decide))).trans pf2
    have hfr : (∀ b j : Nat, (tag b ≠ 44 ∨ j ≠ 0) → (tag b ≠ 44 ∨ j ≠ 1) → (tag b ≠ 44 ∨ j ≠ 13) → (tag b ≠ 44 ∨ j ≠ 14) → (tag b ≠ 46 ∨ j ≠ 8) → (tag b ≠ 46 ∨ j ≠ 9) → (tag b ≠ 46 ∨ j ≠ 10) → (tag b ≠ 46 ∨ j ≠ 11) → (tag b ≠ 46 ∨ j ≠ 12) → (tag b ≠ 46 ∨ j ≠ 13) → (tag b ≠ 46 ∨ j ≠ 14) → (tag b ≠ 46 ∨ j ≠ 15) → fld F b j = fld Fo b j) ∧ (∀ b j : Nat, elm F b j = elm Fo b j) := ⟨fun b j n44_0 n44_1 n44_13 n44_14 n46_8 n46_9 n46_10 n46_11 n46_12 n46_13 n46_14 n46_15 => (yz26618.1 b j n46_8 n46_9 n46_10 n46_11 n46_12 n46_15).trans (hfr.1 b j n44_0 n44_1 n44_13 n44_14 n46_8 n46_9 n46_10 n46_11 n46_12 n46_13 n46_14 n46_15), fun b j  => (yz26618.2 b j ).trans (hfr.2 b j )⟩
    have hstk := STK.tr hstk stz26618
    have hspt := SPT.tr hspt ptz26618
    refine lv_aload_n hx hb dX13_readLand_19 rfl (lv_at hl 0 rfl) ?_
    refine m_ldcKw X 40 rfl dX13_readLand_20 ?_
    refine lv_iconst (v := 3) hx hb dX13_readLand_23 (by decide) ?_
    refine lv_bipush (v := 12) hx hb dX13_readLand_24 (by decide) ?_
    refine t_cVi (n := 3) (C := RX13) (T := TX13) (N := 37) (As := [.ref (G.2 (100 + 40)), .int 3, .int 12]) (rest := []) X hT (km78_X13_readPart l G tag L F hT.2.2.2 p0 40 3 12 x0 x1 x2 soz26618 spz26618 faz26618 m0 g0 (by decide) (by decide) (by decide) mx0 gx0 pf0 mx1 gx1 pf1 mx2 gx2 pf2 (by omega) qsoz26618 (by omega) qspz26618 (by omega) qfaz26618 hkf) m0 g0 rfl rfl qw_552 qw_553 qw_554 qw_5 qw_555 ⟨rfl, by decide +kernel, by decide +kernel, by decide +kernel⟩ ⟨Nat.le_of_ble_eq_true rfl, Nat.le_of_ble_eq_true rfl⟩ hl rfl rfl (Nat.le_of_ble_eq_true rfl) dX13_readLand_26 ⟨Nat.le_of_ble_eq_true rfl, Nat.le_of_ble_eq_true rfl⟩ (fun z26619 F H locs hT hz26619 => ?_)
    obtain ⟨hz26619, yz26619, ⟨soz26619, spz26619, faz26619, qsoz26619, qspz26619, qfaz26619, rsoz26619, rspz26619, rfaz26619, stz26619, ptz26619, hkf⟩⟩ := hz26619
    have qz26612 := (yz26619.1 _ 12 (Or.inr (by decide)) (Or.inr (by decide)) (Or.inr (by decide)) (Or.inr (by decide)) (Or.inl (by rw [gx0]; decide)) (Or.inr (by decide)) (Or.inr (by decide)) (Or.inr (by decide))).trans qz26612
    have qz26613 := (yz26619.1 _ 7 (Or.inr (by decide)) (Or.inr (by decide)) (Or.inr (by decide)) (Or.inr (by decide)) (Or.inr (by decide)) (Or.inr (by decide)) (Or.inr (by decide)) (Or.inr (by decide))).trans qz26613
    have qz26614 := (yz26619.1 _ 8 (Or.inl (by rw [gx0]; decide)) (Or.inr (by decide)) (Or.inr (by decide)) (Or.inr (by decide)) (Or.inr (by decide)) (Or.inr (by decide)) (Or.inr (by decide)) (Or.inr (by decide))).trans qz26614
    have qz26615 := (yz26619.1 _ 9 (Or.inr (by decide)) (Or.inl (by rw [gx0]; decide)) (Or.inr (by decide)) (Or.inr (by decide)) (Or.inr (by decide)) (Or.inr (by decide)) (Or.inr (by decide)) (Or.inr (by decide))).trans qz26615
    have qz26616 := (yz26619.1 _ 10 (Or.inr (by decide)) (Or.inr (by decide)) (Or.inl (by rw [gx0]; decide)) (Or.inr (by decide)) (Or.inr (by decide)) (Or.inr (by decide)) (Or.inr (by decide)) (Or.inr (by decide))).trans qz26616
    have qz26617 := (yz26619.1 _ 0 (Or.inr (by decide)) (Or.inr (by decide)) (Or.inr (by decide)) (Or.inr (by decide)) (Or.inr (by decide)) (Or.inr (by decide)) (Or.inr (by decide)) (Or.inr (by decide))).trans qz26617
    have pf0 := (yz26619.1 _ 4 (Or.inr (by decide)) (Or.inr (by decide)) (Or.inr (by decide)) (Or.inr (by decide)) (Or.inr (by decide)) (Or.inr (by decide)) (Or.inr (by decide)) (Or.inr (by decide))).trans pf0
    have pf1 := (yz26619.1 _ 28 (Or.inr (by decide)) (Or.inr (by decide)) (Or.inr (by decide)) (Or.inr (by decide)) (Or.inr (by decide)) (Or.inr (by decide)) (Or.inr (by decide)) (Or.inr (by decide))).trans pf1
    have pf2 := (yz26619.1 _ 29 (Or.inr (by decide)) (Or.inr (by decide)) (Or.inr (by decide)) (Or.inr (by decide)) (Or.inr (by decide)) (Or.inr (by decide)) (Or.inr (by decide)) (Or.inr (by decide))).trans pf2
    have hfr : (∀ b j : Nat, (tag b ≠ 44 ∨ j ≠ 0) → (tag b ≠ 44 ∨ j ≠ 1) → (tag b ≠ 44 ∨ j ≠ 13) → (tag b ≠ 44 ∨ j ≠ 14) → (tag b ≠ 46 ∨ j ≠ 8) → (tag b ≠ 46 ∨ j ≠ 9) → (tag b ≠ 46 ∨ j ≠ 10) → (tag b ≠ 46 ∨ j ≠ 11) → (tag b ≠ 46 ∨ j ≠ 12) → (tag b ≠ 46 ∨ j ≠ 13) → (tag b ≠ 46 ∨ j ≠ 14) → (tag b ≠ 46 ∨ j ≠ 15) → fld F b j = fld Fo b j) ∧ (∀ b j : Nat, elm F b j = elm Fo b j) := ⟨fun b j n44_0 n44_1 n44_13 n44_14 n46_8 n46_9 n46_10 n46_11 n46_12 n46_13 n46_14 n46_15 => (yz26619.1 b j n46_8 n46_9 n46_10 n46_11 n46_12 n46_13 n46_14 n46_15).trans (hfr.1 b j n44_0 n44_1 n44_13 n44_14 n46_8 n46_9 n46_10 n46_11 n46_12 n46_13 n46_14 n46_15), fun b j  => (yz26619.2 b j ).trans (hfr.2 b j )⟩
    have hstk := STK.tr hstk stz26619
    have hspt := SPT.tr hspt ptz26619
    refine lv_istore_n (lv' := [(1, .int z26619), (0, .ref p0)]) hx hb dX13_readLand_29 rfl hl (by decide) rfl (fun ls hl => ?_)
    refine lv_aload_n hx hb dX13_readLand_30 rfl (lv_at hl 1 rfl) ?_
    refine m_ldcKw X 41 rfl dX13_readLand_31 ?_
    refine lv_iconst (v := 3) hx hb dX13_readLand_34 (by decide) ?_
    refine lv_bipush (v := 12) hx hb dX13_readLand_35 (by decide) ?_
    refine t_cVi (n := 3) (C := RX13) (T := TX13) (N := 37) (As := [.ref (G.2 (100 + 41)), .int 3, .int 12]) (rest := []) X hT (km78_X13_readPart l G tag L F hT.2.2.2 p0 41 3 12 x0 x1 x2 soz26619 spz26619 faz26619 m0 g0 (by decide) (by decide) (by decide) mx0 gx0 pf0 mx1 gx1 pf1 mx2 gx2 pf2 (by omega) qsoz26619 (by omega) qspz26619 (by omega) qfaz26619 hkf) m0 g0 rfl rfl qw_552 qw_553 qw_554 qw_5 qw_555 ⟨rfl, by decide +kernel, by decide +kernel, by decide +kernel⟩ ⟨Nat.le_of_ble_eq_true rfl, Nat.le_of_ble_eq_true rfl⟩ hl rfl rfl (Nat.le_of_ble_eq_true rfl) dX13_readLand_37 ⟨Nat.le_of_ble_eq_true rfl, Nat.le_of_ble_eq_true rfl⟩ (fun z26620 F H locs hT hz26620 => ?_)
    obtain ⟨hz26620, yz26620, ⟨soz26620, spz26620, faz26620, qsoz26620, qspz26620, qfaz26620, rsoz26620, rspz26620, rfaz26620, stz26620, ptz26620, hkf⟩⟩ := hz26620
    have qz26612 := (yz26620.1 _ 12 (Or.inr (by decide)) (Or.inr (by decide)) (Or.inr (by decide)) (Or.inr (by decide)) (Or.inl (by rw [gx0]; decide)) (Or.inr (by decide)) (Or.inr (by decide)) (Or.inr (by decide))).trans qz26612
    have qz26613 := (yz26620.1 _ 7 (Or.inr (by decide)) (Or.inr (by decide)) (Or.inr (by decide)) (Or.inr (by decide)) (Or.inr (by decide)) (Or.inr (by decide)) (Or.inr (by decide)) (Or.inr (by decide))).trans qz26613
    have qz26614 := (yz26620.1 _ 8 (Or.inl (by rw [gx0]; decide)) (Or.inr (by decide)) (Or.inr (by decide)) (Or.inr (by decide)) (Or.inr (by decide)) (Or.inr (by decide)) (Or.inr (by decide)) (Or.inr (by decide))).trans qz26614
    have qz26615 := (yz26620.1 _ 9 (Or.inr (by decide)) (Or.inl (by rw [gx0]; decide)) (Or.inr (by decide)) (Or.inr (by decide)) (Or.inr (by decide)) (Or.inr (by decide)) (Or.inr (by decide)) (Or.inr (by decide))).trans qz26615
    have qz26616 := (yz26620.1 _ 10 (Or.inr (by decide)) (Or.inr (by decide)) (Or.inl (by rw [gx0]; decide)) (Or.inr (by decide)) (Or.inr (by decide)) (Or.inr (by decide)) (Or.inr (by decide)) (Or.inr (by decide))).trans qz26616
    have qz26617 := (yz26620.1 _ 0 (Or.inr (by decide)) (Or.inr (by decide)) (Or.inr (by decide)) (Or.inr (by decide)) (Or.inr (by decide)) (Or.inr (by decide)) (Or.inr (by decide)) (Or.inr (by decide))).trans qz26617
    have pf0 := (yz26620.1 _ 4 (Or.inr (by decide)) (Or.inr (by decide)) (Or.inr (by decide)) (Or.inr (by decide)) (Or.inr (by decide)) (Or.inr (by decide)) (Or.inr (by decide)) (Or.inr (by decide))).trans pf0
    have pf1 := (yz26620.1 _ 28 (Or.inr (by decide)) (Or.inr (by decide)) (Or.inr (by decide)) (Or.inr (by decide)) (Or.inr (by decide)) (Or.inr (by decide)) (Or.inr (by decide)) (Or.inr (by decide))).trans pf1
    have pf2 := (yz26620.1 _ 29 (Or.inr (by decide)) (Or.inr (by decide)) (Or.inr (by decide)) (Or.inr (by decide)) (Or.inr (by decide)) (Or.inr (by decide)) (Or.inr (by decide)) (Or.inr (by decide))).trans pf2
    have hfr : (∀ b j : Nat, (tag b ≠ 44 ∨ j ≠ 0) → (tag b ≠ 44 ∨ j ≠ 1) → (tag b ≠ 44 ∨ j ≠ 13) → (tag b ≠ 44 ∨ j ≠ 14) → (tag b ≠ 46 ∨ j ≠ 8) → (tag b ≠ 46 ∨ j ≠ 9) → (tag b ≠ 46 ∨ j ≠ 10) → (tag b ≠ 46 ∨ j ≠ 11) → (tag b ≠ 46 ∨ j ≠ 12) → (tag b ≠ 46 ∨ j ≠ 13) → (tag b ≠ 46 ∨ j ≠ 14) → (tag b ≠ 46 ∨ j ≠ 15) → fld F b j = fld Fo b j) ∧ (∀ b j : Nat, elm F b j = elm Fo b j) := ⟨fun b j n44_0 n44_1 n44_13 n44_14 n46_8 n46_9 n46_10 n46_11 n46_12 n46_13 n46_14 n46_15 => (yz26620.1 b j n46_8 n46_9 n46_10 n46_11 n46_12 n46_13 n46_14 n46_15).trans (hfr.1 b j n44_0 n44_1 n44_13 n44_14 n46_8 n46_9 n46_10 n46_11 n46_12 n46_13 n46_14 n46_15), fun b j  => (yz26620.2 b j ).trans (hfr.2 b j )⟩
    have hstk := STK.tr hstk stz26620
    have hspt := SPT.tr hspt ptz26620
    refine lv_istore_n (lv' := [(2, .int z26620), (1, .int z26619), (0, .ref p0)]) hx hb dX13_readLand_40 rfl hl (by decide) rfl (fun ls hl => ?_)
    refine lv_aload_n hx hb dX13_readLand_41 rfl (lv_at hl 2 rfl) ?_
    refine m_ldcKw X 42 rfl dX13_readLand_42 ?_
    refine t_cVv (n := 1) (C := RX13) (T := TX13) (N := 37) (As := [.ref (G.2 (100 + 42))]) (rest := []) X hT (km40_X13_needs l G tag L F hT.2.2.2 p0 42 x0 x1 x2 soz26620 spz26620 faz26620 m0 g0 (by decide) mx0 gx0 pf0 mx1 gx1 pf1 mx2 gx2 pf2 (by omega) qsoz26620 (by omega) qspz26620 (by omega) qfaz26620 hkf) m0 g0 rfl rfl qw_556 qw_557 qw_558 qw_5 qw_559 ⟨rfl, by decide +kernel, by decide +kernel, by decide +kernel⟩ ⟨Nat.le_of_ble_eq_true rfl, Nat.le_of_ble_eq_true rfl⟩ hl rfl rfl (Nat.le_of_ble_eq_true rfl) dX13_readLand_45 ⟨Nat.le_of_ble_eq_true rfl, Nat.le_of_ble_eq_true rfl⟩ (fun F H locs hT hz26621 => ?_)
    obtain ⟨yz26621, ⟨soz26621, spz26621, faz26621, qsoz26621, qspz26621, qfaz26621, rsoz26621, rspz26621, rfaz26621, stz26621, ptz26621, hkf⟩⟩ := hz26621
    have qz26612 := (yz26621.1 _ 12 (Or.inr (by decide)) (Or.inr (by decide)) (Or.inr (by decide)) (Or.inr (by decide)) (Or.inl (by rw [gx0]; decide)) (Or.inr (by decide)) (Or.inr (by decide)) (Or.inr (by decide))).trans qz26612
    have qz26613 := (yz26621.1 _ 7 (Or.inr (by decide)) (Or.inr (by decide)) (Or.inr (by decide)) (Or.inr (by decide)) (Or.inr (by decide)) (Or.inr (by decide)) (Or.inr (by decide)) (Or.inr (by decide))).trans qz26613
    have qz26614 := (yz26621.1 _ 8 (Or.inl (by rw [gx0]; decide)) (Or.inr (by decide)) (Or.inr (by decide)) (Or.inr (by decide)) (Or.inr (by decide)) (Or.inr (by decide)) (Or.inr (by decide)) (Or.inr (by decide))).trans qz26614
    have qz26615 := (yz26621.1 _ 9 (Or.inr (by decide)) (Or.inl (by rw [gx0]; decide)) (Or.inr (by decide)) (Or.inr (by decide)) (Or.inr (by decide)) (Or.inr (by decide)) (Or.inr (by decide)) (Or.inr (by decide))).trans qz26615
    have qz26616 := (yz26621.1 _ 10 (Or.inr (by decide)) (Or.inr (by decide)) (Or.inl (by rw [gx0]; decide)) (Or.inr (by decide)) (Or.inr (by decide)) (Or.inr (by decide)) (Or.inr (by decide)) (Or.inr (by decide))).trans qz26616
    have qz26617 := (yz26621.1 _ 0 (Or.inr (by decide)) (Or.inr (by decide)) (Or.inr (by decide)) (Or.inr (by decide)) (Or.inr (by decide)) (Or.inr (by decide)) (Or.inr (by decide)) (Or.inr (by decide))).trans qz26617
    have pf0 := (yz26621.1 _ 4 (Or.inr (by decide)) (Or.inr (by decide)) (Or.inr (by decide)) (Or.inr (by decide)) (Or.inr (by decide)) (Or.inr (by decide)) (Or.inr (by decide)) (Or.inr (by decide))).trans pf0
    have pf1 := (yz26621.1 _ 28 (Or.inr (by decide)) (Or.inr (by decide)) (Or.inr (by decide)) (Or.inr (by decide)) (Or.inr (by decide)) (Or.inr (by decide)) (Or.inr (by decide)) (Or.inr (by decide))).trans pf1
    have pf2 := (yz26621.1 _ 29 (Or.inr (by decide)) (Or.inr (by decide)) (Or.inr (by decide)) (Or.inr (by decide)) (Or.inr (by decide)) (Or.inr (by decide)) (Or.inr (by decide)) (Or.inr (by decide))).trans pf2
    have hfr : (∀ b j : Nat, (tag b ≠ 44 ∨ j ≠ 0) → (tag b ≠ 44 ∨ j ≠ 1) → (tag b ≠ 44 ∨ j ≠ 13) → (tag b ≠ 44 ∨ j ≠ 14) → (tag b ≠ 46 ∨ j ≠ 8) → (tag b ≠ 46 ∨ j ≠ 9) → (tag b ≠ 46 ∨ j ≠ 10) → (tag b ≠ 46 ∨ j ≠ 11) → (tag b ≠ 46 ∨ j ≠ 12) → (tag b ≠ 46 ∨ j ≠ 13) → (tag b ≠ 46 ∨ j ≠ 14) → (tag b ≠ 46 ∨ j ≠ 15) → fld F b j = fld Fo b j) ∧ (∀ b j : Nat, elm F b j = elm Fo b j) := ⟨fun b j n44_0 n44_1 n44_13 n44_14 n46_8 n46_9 n46_10 n46_11 n46_12 n46_13 n46_14 n46_15 => (yz26621.1 b j n46_8 n46_9 n46_10 n46_11 n46_12 n46_13 n46_14 n46_15).trans (hfr.1 b j n44_0 n44_1 n44_13 n44_14 n46_8 n46_9 n46_10 n46_11 n46_12 n46_13 n46_14 n46_15), fun b j  => (yz26621.2 b j ).trans (hfr.2 b j )⟩
    have hstk := STK.tr hstk stz26621
    have hspt := SPT.tr hspt ptz26621
    refine lv_aload_n hx hb dX13_readLand_48 rfl (lv_at hl 2 rfl) ?_
    refine m_ldcKw X 43 rfl dX13_readLand_49 ?_
    refine t_cVi (n := 1) (C := RX13) (T := TX13) (N := 37) (As := [.ref (G.2 (100 + 43))]) (rest := []) X hT (km9_X13_isWord l G tag L F hT.2.2.2 p0 43 soz26621 m0 g0 (by decide) (by omega) qsoz26621) m0 g0 rfl rfl qw_535 qw_536 qw_537 qw_5 qw_538 ⟨rfl, by decide +kernel, by decide +kernel, by decide +kernel⟩ ⟨Nat.le_of_ble_eq_true rfl, Nat.le_of_ble_eq_true rfl⟩ hl rfl rfl (Nat.le_of_ble_eq_true rfl) dX13_readLand_52 ⟨Nat.le_of_ble_eq_true rfl, Nat.le_of_ble_eq_true rfl⟩ (fun z26622 F9 H locs hT hz26622 => ?_)
    obtain ⟨fz26622, hz26622, xz26622_0⟩ := hz26622
    rw [fz26622] at hT
    refine lv_istore_n (lv' := [(3, .int z26622), (2, .int z26620), (1, .int z26619), (0, .ref p0)]) hx hb dX13_readLand_55 rfl hl (by decide) rfl (fun ls hl => ?_)
    refine lv_iload_n hx hb dX13_readLand_56 rfl (lv_at hl 0 rfl) ?_
    refine lv_if_ne (tgt := 75) hx hb dX13_readLand_57 (by decide) (fun c26623 => ?_) (fun c26623 => ?_)
    · have w26624 := cv_ne (rfl : z26622.toInt = z26622.toInt) (by decide : (0 : Int32).toInt = 0) c26623
      exact K75 z26619 z26620 z26622 z26612 z26613 z26614 z26615 z26616 z26617 soz26621 spz26621 faz26621 _ _ _ _ (by omega) (by omega) (by omega) (by omega) (by omega) (by omega) (by omega) (by omega) (by omega) (by omega) (by omega) (by omega) hT hfr pf0 pf1 pf2 qz26612 qz26613 qz26614 qz26615 qz26616 qz26617 qsoz26621 qspz26621 qfaz26621 hstk hspt hkf hpl (lv_sub hl [3, 2, 1, 0] rfl)
    · have w26625 := cv_eq (rfl : z26622.toInt = z26622.toInt) (by decide : (0 : Int32).toInt = 0) c26623
      refine lv_aload_n hx hb dX13_readLand_60 rfl (lv_at hl 3 rfl) ?_
      refine m_ldcKw X 44 rfl dX13_readLand_61 ?_
      refine t_cVi (n := 1) (C := RX13) (T := TX13) (N := 37) (As := [.ref (G.2 (100 + 44))]) (rest := []) X hT (km9_X13_isWord l G tag L F hT.2.2.2 p0 44 soz26621 m0 g0 (by decide) (by omega) qsoz26621) m0 g0 rfl rfl qw_535 qw_536 qw_537 qw_5 qw_538 ⟨rfl, by decide +kernel, by decide +kernel, by decide +kernel⟩ ⟨Nat.le_of_ble_eq_true rfl, Nat.le_of_ble_eq_true rfl⟩ hl rfl rfl (Nat.le_of_ble_eq_true rfl) dX13_readLand_64 ⟨Nat.le_of_ble_eq_true rfl, Nat.le_of_ble_eq_true rfl⟩ (fun z26626 F9 H locs hT hz26626 => ?_)
      obtain ⟨fz26626, hz26626, xz26626_0⟩ := hz26626
      rw [fz26626] at hT
      refine lv_if_ne (tgt := 75) hx hb dX13_readLand_67 (by decide) (fun c26627 => ?_) (fun c26627 => ?_)
      · have w26628 := cv_ne (rfl : z26626.toInt = z26626.toInt) (by decide : (0 : Int32).toInt = 0) c26627
        exact K75 z26619 z26620 z26622 z26612 z26613 z26614 z26615 z26616 z26617 soz26621 spz26621 faz26621 _ _ _ _ (by omega) (by omega) (by omega) (by omega) (by omega) (by omega) (by omega) (by omega) (by omega) (by omega) (by omega) (by omega) hT hfr pf0 pf1 pf2 qz26612 qz26613 qz26614 qz26615 qz26616 qz26617 qsoz26621 qspz26621 qfaz26621 hstk hspt hkf hpl (lv_sub hl [3, 2, 1, 0] rfl)
      · have w26629 := cv_eq (rfl : z26626.toInt = z26626.toInt) (by decide : (0 : Int32).toInt = 0) c26627
        refine lv_aload_n hx hb dX13_readLand_70 rfl (lv_at hl 3 rfl) ?_
        refine lv_iconst (v := 1) hx hb dX13_readLand_71 (by decide) ?_
        refine t_cVv (n := 1) (C := RX13) (T := TX13) (N := 37) (As := [.int 1]) (rest := []) X hT (km10_X13_flaw l G tag L F hT.2.2.2 p0 1 x0 x1 x2 soz26621 spz26621 faz26621 m0 g0 (by decide) mx0 gx0 pf0 mx1 gx1 pf1 mx2 gx2 pf2 (by omega) qsoz26621 (by omega) qspz26621 (by omega) qfaz26621 hkf) m0 g0 rfl rfl qw_548 qw_549 qw_550 qw_5 qw_551 ⟨rfl, by decide +kernel, by decide +kernel, by decide +kernel⟩ ⟨Nat.le_of_ble_eq_true rfl, Nat.le_of_ble_eq_true rfl⟩ hl rfl rfl (Nat.le_of_ble_eq_true rfl) dX13_readLand_72 ⟨Nat.le_of_ble_eq_true rfl, Nat.le_of_ble_eq_true rfl⟩ (fun F H locs hT hz26630 => ?_)
        obtain ⟨yz26630, ⟨soz26630, spz26630, faz26630, qsoz26630, qspz26630, qfaz26630, rsoz26630, rspz26630, rfaz26630, stz26630, ptz26630, hkf, pxz26630_0⟩⟩ := hz26630
        have qz26612 := (yz26630.1 _ 12 (Or.inr (by decide)) (Or.inr (by decide)) (Or.inr (by decide))).trans qz26612
        have qz26613 := (yz26630.1 _ 7 (Or.inr (by decide)) (Or.inr (by decide)) (Or.inr (by decide))).trans qz26613
        have qz26614 := (yz26630.1 _ 8 (Or.inr (by decide)) (Or.inr (by decide)) (Or.inr (by decide))).trans qz26614
        have qz26615 := (yz26630.1 _ 9 (Or.inl (by rw [gx0]; decide)) (Or.inr (by decide)) (Or.inr (by decide))).trans qz26615
        have qz26616 := (yz26630.1 _ 10 (Or.inr (by decide)) (Or.inr (by decide)) (Or.inr (by decide))).trans qz26616
        have qz26617 := (yz26630.1 _ 0 (Or.inr (by decide)) (Or.inr (by decide)) (Or.inr (by decide))).trans qz26617
        have pf0 := (yz26630.1 _ 4 (Or.inr (by decide)) (Or.inr (by decide)) (Or.inr (by decide))).trans pf0
        have pf1 := (yz26630.1 _ 28 (Or.inr (by decide)) (Or.inr (by decide)) (Or.inr (by decide))).trans pf1
        have pf2 := (yz26630.1 _ 29 (Or.inr (by decide)) (Or.inr (by decide)) (Or.inr (by decide))).trans pf2
        have qspz26621 := (yz26630.1 _ 8 (Or.inr (by decide)) (Or.inr (by decide)) (Or.inr (by decide))).trans qspz26621
        have hfr : (∀ b j : Nat, (tag b ≠ 44 ∨ j ≠ 0) → (tag b ≠ 44 ∨ j ≠ 1) → (tag b ≠ 44 ∨ j ≠ 13) → (tag b ≠ 44 ∨ j ≠ 14) → (tag b ≠ 46 ∨ j ≠ 8) → (tag b ≠ 46 ∨ j ≠ 9) → (tag b ≠ 46 ∨ j ≠ 10) → (tag b ≠ 46 ∨ j ≠ 11) → (tag b ≠ 46 ∨ j ≠ 12) → (tag b ≠ 46 ∨ j ≠ 13) → (tag b ≠ 46 ∨ j ≠ 14) → (tag b ≠ 46 ∨ j ≠ 15) → fld F b j = fld Fo b j) ∧ (∀ b j : Nat, elm F b j = elm Fo b j) := ⟨fun b j n44_0 n44_1 n44_13 n44_14 n46_8 n46_9 n46_10 n46_11 n46_12 n46_13 n46_14 n46_15 => (yz26630.1 b j n46_9 n46_13 n46_14).trans (hfr.1 b j n44_0 n44_1 n44_13 n44_14 n46_8 n46_9 n46_10 n46_11 n46_12 n46_13 n46_14 n46_15), fun b j  => (yz26630.2 b j ).trans (hfr.2 b j )⟩
        have hstk := STK.tr hstk stz26630
        have hspt := SPT.tr hspt ptz26630
        exact K75 z26619 z26620 z26622 z26612 z26613 z26614 z26615 z26616 z26617 soz26630 spz26630 faz26630 _ _ _ _ (by omega) (by omega) (by omega) (by omega) (by omega) (by omega) (by omega) (by omega) (by omega) (by omega) (by omega) (by omega) hT hfr pf0 pf1 pf2 qz26612 qz26613 qz26614 qz26615 qz26616 qz26617 qsoz26630 qspz26630 qfaz26630 hstk hspt hkf hpl (lv_sub hl [3, 2, 1, 0] rfl)
  refine lv_aload_n hx hb dX13_readLand_0 rfl (lv_at hl 0 rfl) ?_
  refine t_get (C := RX13) (T := TX13) (N := 37) X hT m0 g0 rfl rfl 4 (by decide) qw_477 inlX13 rfl dX13_readLand_1 (fun v26631 hv26631 ov26631 => ?_)
  obtain rfl : v26631 = .ref x0 := hv26631.symm.trans pf0
  refine t_getN (C := RX12) (T := TX12) (N := 31) X hT mx0 gx0 rfl rfl 0 (by decide) (List.mem_of_getElem? (i := 4) rfl) inlX12 rfl dX13_readLand_4 (fun v26632 hv26632 ov26632 => ?_)
  obtain rfl : v26632 = .int x11 := hv26632.symm.trans pf11
  refine lv_if_le (tgt := 15) hx hb dX13_readLand_7 (by decide) (fun c26633 => ?_) (fun c26633 => ?_)
  · have w26634 := cv_le (rfl : x11.toInt = x11.toInt) (by decide : (0 : Int32).toInt = 0) c26633
    exact K15 x3 x4 x5 x6 x7 x8 x9 x10 x11 _ _ _ _ (by omega) (by omega) (by omega) (by omega) (by omega) (by omega) (by omega) (by omega) (by omega) hT hfr pf0 pf1 pf2 pf3 pf4 pf5 pf6 pf7 pf8 pf9 pf10 pf11 hstk hspt hkf hpl (lv_sub hl [0] rfl)
  · have w26635 := cv_nle (rfl : x11.toInt = x11.toInt) (by decide : (0 : Int32).toInt = 0) c26633
    refine lv_aload_n hx hb dX13_readLand_10 rfl (lv_at hl 0 rfl) ?_
    refine lv_iconst (v := 3) hx hb dX13_readLand_11 (by decide) ?_
    refine t_cVv (n := 1) (C := RX13) (T := TX13) (N := 37) (As := [.int 3]) (rest := []) X hT (km10_X13_flaw l G tag L F hT.2.2.2 p0 3 x0 x1 x2 x3 x4 x5 m0 g0 (by decide) mx0 gx0 pf0 mx1 gx1 pf1 mx2 gx2 pf2 (by omega) pf3 (by omega) pf4 (by omega) pf5 hkf) m0 g0 rfl rfl qw_548 qw_549 qw_550 qw_5 qw_551 ⟨rfl, by decide +kernel, by decide +kernel, by decide +kernel⟩ ⟨Nat.le_of_ble_eq_true rfl, Nat.le_of_ble_eq_true rfl⟩ hl rfl rfl (Nat.le_of_ble_eq_true rfl) dX13_readLand_12 ⟨Nat.le_of_ble_eq_true rfl, Nat.le_of_ble_eq_true rfl⟩ (fun F H locs hT hz26636 => ?_)
    obtain ⟨yz26636, ⟨soz26636, spz26636, faz26636, qsoz26636, qspz26636, qfaz26636, rsoz26636, rspz26636, rfaz26636, stz26636, ptz26636, hkf, pxz26636_0⟩⟩ := hz26636
    have pf0 := (yz26636.1 _ 4 (Or.inr (by decide)) (Or.inr (by decide)) (Or.inr (by decide))).trans pf0
    have pf1 := (yz26636.1 _ 28 (Or.inr (by decide)) (Or.inr (by decide)) (Or.inr (by decide))).trans pf1
    have pf2 := (yz26636.1 _ 29 (Or.inr (by decide)) (Or.inr (by decide)) (Or.inr (by decide))).trans pf2
    have pf4 := (yz26636.1 _ 8 (Or.inr (by decide)) (Or.inr (by decide)) (Or.inr (by decide))).trans pf4
    have pf6 := (yz26636.1 _ 12 (Or.inr (by decide)) (Or.inr (by decide)) (Or.inr (by decide))).trans pf6
    have pf7 := (yz26636.1 _ 7 (Or.inr (by decide)) (Or.inr (by decide)) (Or.inr (by decide))).trans pf7
    have pf8 := (yz26636.1 _ 8 (Or.inr (by decide)) (Or.inr (by decide)) (Or.inr (by decide))).trans pf8
    have pf9 := (yz26636.1 _ 9 (Or.inl (by rw [gx0]; decide)) (Or.inr (by decide)) (Or.inr (by decide))).trans pf9
    have pf10 := (yz26636.1 _ 10 (Or.inr (by decide)) (Or.inr (by decide)) (Or.inr (by decide))).trans pf10
    have pf11 := (yz26636.1 _ 0 (Or.inr (by decide)) (Or.inr (by decide)) (Or.inr (by decide))).trans pf11
    have hfr : (∀ b j : Nat, (tag b ≠ 44 ∨ j ≠ 0) → (tag b ≠ 44 ∨ j ≠ 1) → (tag b ≠ 44 ∨ j ≠ 13) → (tag b ≠ 44 ∨ j ≠ 14) → (tag b ≠ 46 ∨ j ≠ 8) → (tag b ≠ 46 ∨ j ≠ 9) → (tag b ≠ 46 ∨ j ≠ 10) → (tag b ≠ 46 ∨ j ≠ 11) → (tag b ≠ 46 ∨ j ≠ 12) → (tag b ≠ 46 ∨ j ≠ 13) → (tag b ≠ 46 ∨ j ≠ 14) → (tag b ≠ 46 ∨ j ≠ 15) → fld F b j = fld Fo b j) ∧ (∀ b j : Nat, elm F b j = elm Fo b j) := ⟨fun b j n44_0 n44_1 n44_13 n44_14 n46_8 n46_9 n46_10 n46_11 n46_12 n46_13 n46_14 n46_15 => (yz26636.1 b j n46_9 n46_13 n46_14).trans (hfr.1 b j n44_0 n44_1 n44_13 n44_14 n46_8 n46_9 n46_10 n46_11 n46_12 n46_13 n46_14 n46_15), fun b j  => (yz26636.2 b j ).trans (hfr.2 b j )⟩
    have hstk := STK.tr hstk stz26636
    have hspt := SPT.tr hspt ptz26636
    exact K15 soz26636 spz26636 faz26636 x6 x7 x8 x9 x10 x11 _ _ _ _ (by omega) (by omega) (by omega) (by omega) (by omega) (by omega) (by omega) (by omega) (by omega) hT hfr pf0 pf1 pf2 qsoz26636 qspz26636 qfaz26636 pf6 pf7 pf8 pf9 pf10 pf11 hstk hspt hkf hpl (lv_sub hl [0] rfl)
