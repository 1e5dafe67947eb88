set_option maxHeartbeats 4000000 in
set_option maxRecDepth 100000 in
theorem km59_X13_readHouse (l : Launch) (G : KG) (tag : Nat → Nat) (L : List Nat) (Fo : Nat → va_E) (ho : okT G ttC tag L Fo) (p0 : Nat) (x0 : Nat) (x1 : Nat) (x2 : Nat) (x3 : Int32) (x4 : Int32) (x5 : Int32) (x6 : Int32) (x7 : Int32) (x8 : Int32) (x9 : Int32) (x10 : Int32) (x11 : Int32) (m0 : p0 ∈ L) (g0 : tag p0 = 46) (mx0 : x0 ∈ L) (gx0 : tag x0 = 44) (pf0 : fld Fo p0 4 = .ref x0) (mx1 : x1 ∈ L) (gx1 : tag x1 = 35) (pf1 : fld Fo x0 28 = .ref x1) (mx2 : x2 ∈ L) (gx2 : tag x2 = 36) (pf2 : fld Fo x0 29 = .ref x2) (hx3 : 0 ≤ x3.toInt ∧ x3.toInt ≤ 5) (pf3 : fld Fo p0 9 = .int x3) (hx4 : 0 ≤ x4.toInt ∧ x4.toInt ≤ 1000) (pf4 : fld Fo p0 8 = .int x4) (hx5 : 0 ≤ x5.toInt ∧ x5.toInt ≤ 7) (pf5 : fld Fo p0 13 = .int x5) (hx6 : 0 ≤ x6.toInt ∧ x6.toInt ≤ 32) (pf6 : fld Fo x0 12 = .int x6) (hx7 : 0 ≤ x7.toInt ∧ x7.toInt ≤ 4) (pf7 : fld Fo x0 7 = .int x7) (hx8 : 0 ≤ x8.toInt ∧ x8.toInt ≤ 4) (pf8 : fld Fo x0 8 = .int x8) (hx9 : 0 ≤ x9.toInt ∧ x9.toInt ≤ 6) (pf9 : fld Fo x0 9 = .int x9) (hx10 : 0 ≤ x10.toInt ∧ x10.toInt ≤ 6) (pf10 : fld Fo x0 10 = .int x10) (hx11 : 0 ≤ x11.toInt ∧ x11.toInt ≤ 12) (pf11 : fld Fo x0 0 = .int x11) (hrel : MSR Fo x1 x2) (hkf : KF x3 x5) (hpl : PLr x6 x7 x8 x9 x10 x11) : TMv l yX13_readHouse cX13_readHouse 8 { frames := 9, cells := 0, slots := 0, locals := 193 } G ttC tag L Fo [.ref p0] (fun F1 => ((∀ b j : Nat, (tag b ≠ 44 ∨ j ≠ 8) → (tag b ≠ 44 ∨ j ≠ 12) → (tag b ≠ 46 ∨ j ≠ 8) → (tag b ≠ 46 ∨ j ≠ 9) → (tag b ≠ 46 ∨ j ≠ 10) → (tag b ≠ 46 ∨ j ≠ 11) → (tag b ≠ 46 ∨ j ≠ 12) → (tag b ≠ 46 ∨ j ≠ 13) → (tag b ≠ 46 ∨ j ≠ 14) → (tag b ≠ 46 ∨ j ≠ 15) → fld F1 b j = fld Fo b j) ∧ (∀ b j : Nat, tag b ≠ 30 → tag b ≠ 31 → tag b ≠ 34 → tag b ≠ 35 → tag b ≠ 36 → tag b ≠ 37 → elm F1 b j = elm Fo b j)) ∧ (MSR F1 x1 x2) ∧ (∃ so sp fa : Int32, fld F1 p0 9 = .int so ∧ fld F1 p0 8 = .int sp ∧ fld F1 p0 13 = .int fa ∧ (0 ≤ so.toInt ∧ so.toInt ≤ 5) ∧ (0 ≤ sp.toInt ∧ sp.toInt ≤ 1000) ∧ (0 ≤ fa.toInt ∧ fa.toInt ≤ 7) ∧ STK x3 so ∧ SPT x3 x4 so sp ∧ KF so fa) ∧ (∃ na st ho he wa wi : Int32, fld F1 x0 12 = .int na ∧ fld F1 x0 7 = .int st ∧ fld F1 x0 8 = .int ho ∧ fld F1 x0 9 = .int he ∧ fld F1 x0 10 = .int wa ∧ fld F1 x0 0 = .int wi ∧ (0 ≤ na.toInt ∧ na.toInt ≤ 32) ∧ (0 ≤ st.toInt ∧ st.toInt ≤ 4) ∧ (0 ≤ ho.toInt ∧ ho.toInt ≤ 4) ∧ (0 ≤ he.toInt ∧ he.toInt ≤ 6) ∧ (0 ≤ wa.toInt ∧ wa.toInt ≤ 6) ∧ (0 ≤ wi.toInt ∧ wi.toInt ≤ 12) ∧ PLr na st ho he wa wi)) := by
  refine t_bodyv (y := yX13_readHouse) (cd := cX13_readHouse) (mL := 8) (rm := { frames := 9, cells := 0, slots := 0, locals := 193 }) (av := [.ref p0]) (by decide) (Nat.le_of_ble_eq_true rfl) ho ?_
  intro p e s m args below meth c ls A Q hQ X hT hl
  have hx := X.1.1
  have hb := X.1.2.1
  have hl : lv_has ls 8 [(0, .ref p0)] := hl
  obtain ⟨F, hFo⟩ : ∃ F : Nat → va_E, F = Fo := ⟨_, rfl⟩
  rw [← hFo] at hT pf0 pf1 pf2 pf3 pf4 pf5 pf6 pf7 pf8 pf9 pf10 pf11 hrel
  have hfr : (∀ b j : Nat, (tag b ≠ 44 ∨ j ≠ 8) → (tag b ≠ 44 ∨ j ≠ 12) → (tag b ≠ 46 ∨ j ≠ 8) → (tag b ≠ 46 ∨ j ≠ 9) → (tag b ≠ 46 ∨ j ≠ 10) → (tag b ≠ 46 ∨ j ≠ 11) → (tag b ≠ 46 ∨ j ≠ 12) → (tag b ≠ 46 ∨ j ≠ 13) → (tag b ≠ 46 ∨ j ≠ 14) → (tag b ≠ 46 ∨ j ≠ 15) → fld F b j = fld Fo b j) ∧ (∀ b j : Nat, tag b ≠ 30 → tag b ≠ 31 → tag b ≠ 34 → tag b ≠ 35 → tag b ≠ 36 → tag b ≠ 37 → elm F b j = elm Fo b j) := by
    rw [hFo]
    exact ⟨by intros; rfl, by intros; rfl⟩
  have hstk : STK x3 x3 := STK.rf
  have hspt : SPT x3 x4 x3 x4 := SPT.rf
  have hpu := hpl
  unfold PLr at hpu
  refine lv_aload_n hx hb dX13_readHouse_0 rfl (lv_at hl 0 rfl) ?_
  refine lv_aload_n hx hb dX13_readHouse_1 rfl (lv_at hl 0 rfl) ?_
  refine t_get (C := RX13) (T := TX13) (N := 37) X hT m0 g0 rfl rfl 4 (by decide) qw_477 inlX13 rfl dX13_readHouse_2 (fun v20999 hv20999 ov20999 => ?_)
  obtain rfl : v20999 = .ref x0 := hv20999.symm.trans pf0
  refine t_getN (C := RX12) (T := TX12) (N := 31) X hT mx0 gx0 rfl rfl 8 (by decide) (List.mem_of_getElem? (i := 12) rfl) inlX12 rfl dX13_readHouse_5 (fun v21000 hv21000 ov21000 => ?_)
  obtain rfl : v21000 = .int x8 := hv21000.symm.trans pf8
  refine lv_iconst (v := 4) hx hb dX13_readHouse_8 (by decide) ?_
  refine t_cVv (n := 2) (C := RX13) (T := TX13) (N := 37) (As := [.int x8, .int 4]) (rest := []) X hT (km15_X13_begins l G tag L F hT.2.2.2 p0 x8 4 x0 x1 x2 x3 x4 x5 x11 m0 g0 mx0 gx0 pf0 mx1 gx1 pf1 mx2 gx2 pf2 (by omega) pf3 (by omega) pf4 (by omega) pf5 (by omega) pf11 hkf) m0 g0 rfl rfl qw_575 qw_576 qw_577 qw_5 qw_578 ⟨rfl, by decide +kernel, by decide +kernel, by decide +kernel⟩ ⟨Nat.le_of_ble_eq_true rfl, Nat.le_of_ble_eq_true rfl⟩ hl rfl rfl (Nat.le_of_ble_eq_true rfl) dX13_readHouse_9 ⟨Nat.le_of_ble_eq_true rfl, Nat.le_of_ble_eq_true rfl⟩ (fun F H locs hT hz21001 => ?_)
  obtain ⟨yz21001, ⟨soz21001, spz21001, faz21001, qsoz21001, qspz21001, qfaz21001, rsoz21001, rspz21001, rfaz21001, stz21001, ptz21001, hkf, pxz21001_0⟩⟩ := hz21001
  have pf0 := (yz21001.1 _ 4 (Or.inr (by decide)) (Or.inr (by decide)) (Or.inr (by decide)) (Or.inr (by decide)) (Or.inr (by decide)) (Or.inr (by decide)) (Or.inr (by decide)) (Or.inr (by decide))).trans pf0
  have pf1 := (yz21001.1 _ 28 (Or.inr (by decide)) (Or.inr (by decide)) (Or.inr (by decide)) (Or.inr (by decide)) (Or.inr (by decide)) (Or.inr (by decide)) (Or.inr (by decide)) (Or.inr (by decide))).trans pf1
  have pf2 := (yz21001.1 _ 29 (Or.inr (by decide)) (Or.inr (by decide)) (Or.inr (by decide)) (Or.inr (by decide)) (Or.inr (by decide)) (Or.inr (by decide)) (Or.inr (by decide)) (Or.inr (by decide))).trans pf2
  have pf6 := (yz21001.1 _ 12 (Or.inr (by decide)) (Or.inr (by decide)) (Or.inr (by decide)) (Or.inr (by decide)) (Or.inl (by rw [gx0]; decide)) (Or.inr (by decide)) (Or.inr (by decide)) (Or.inr (by decide))).trans pf6
  have pf7 := (yz21001.1 _ 7 (Or.inr (by decide)) (Or.inr (by decide)) (Or.inr (by decide)) (Or.inr (by decide)) (Or.inr (by decide)) (Or.inr (by decide)) (Or.inr (by decide)) (Or.inr (by decide))).trans pf7
  have pf8 := (yz21001.1 _ 8 (Or.inl (by rw [gx0]; decide)) (Or.inr (by decide)) (Or.inr (by decide)) (Or.inr (by decide)) (Or.inr (by decide)) (Or.inr (by decide)) (Or.inr (by decide)) (Or.inr (by decide))).trans pf8
  have pf9 := (yz21001.1 _ 9 (Or.inr (by decide)) (Or.inl (by rw [gx0]; decide)) (Or.inr (by decide)) (Or.inr (by decide)) (Or.inr (by decide)) (Or.inr (by decide)) (Or.inr (by decide)) (Or.inr (by decide))).trans pf9
  have pf10 := (yz21001.1 _ 10 (Or.inr (by decide)) (Or.inr (by decide)) (Or.inl (by rw [gx0]; decide)) (Or.inr (by decide)) (Or.inr (by decide)) (Or.inr (by decide)) (Or.inr (by decide)) (Or.inr (by decide))).trans pf10
  have pf11 := (yz21001.1 _ 0 (Or.inr (by decide)) (Or.inr (by decide)) (Or.inr (by decide)) (Or.inr (by decide)) (Or.inr (by decide)) (Or.inr (by decide)) (Or.inr (by decide)) (Or.inr (by decide))).trans pf11
  have hfr : (∀ b j : Nat, (tag b ≠ 44 ∨ j ≠ 8) → (tag b ≠ 44 ∨ j ≠ 12) → (tag b ≠ 46 ∨ j ≠ 8) → (tag b ≠ 46 ∨ j ≠ 9) → (tag b ≠ 46 ∨ j ≠ 10) → (tag b ≠ 46 ∨ j ≠ 11) → (tag b ≠ 46 ∨ j ≠ 12) → (tag b ≠ 46 ∨ j ≠ 13) → (tag b ≠ 46 ∨ j ≠ 14) → (tag b ≠ 46 ∨ j ≠ 15) → fld F b j = fld Fo b j) ∧ (∀ b j : Nat, tag b ≠ 30 → tag b ≠ 31 → tag b ≠ 34 → tag b ≠ 35 → tag b ≠ 36 → tag b ≠ 37 → elm F b j = elm Fo b j) := ⟨fun b j n44_8 n44_12 n46_8 n46_9 n46_10 n46_11 n46_12 n46_13 n46_14 n46_15 => (yz21001.1 b j n46_8 n46_9 n46_10 n46_11 n46_12 n46_13 n46_14 n46_15).trans (hfr.1 b j n44_8 n44_12 n46_8 n46_9 n46_10 n46_11 n46_12 n46_13 n46_14 n46_15), fun b j a30 a31 a34 a35 a36 a37 => (yz21001.2 b j ).trans (hfr.2 b j a30 a31 a34 a35 a36 a37)⟩
  have hrel := msr_of (fun j => yz21001.2 _ j ) (fun j => yz21001.2 _ j ) hrel
  have hstk := STK.tr hstk stz21001
  have hspt := SPT.tr hspt ptz21001
  have k21002 : (4 : Int32).toInt = 4 := by decide
  refine lv_aload_n hx hb dX13_readHouse_12 rfl (lv_at hl 0 rfl) ?_
  refine t_cVl (n := 0) (C := RX13) (T := TX13) (N := 37) (As := []) (rest := []) X hT (km26_X13_readFresh l G tag L F hT.2.2.2 p0 x0 x1 x2 soz21001 spz21001 faz21001 m0 g0 mx0 gx0 pf0 mx1 gx1 pf1 mx2 gx2 pf2 (by omega) qsoz21001 (by omega) qspz21001 (by omega) qfaz21001 hkf) m0 g0 rfl rfl qw_595 qw_596 qw_597 qw_5 qw_598 ⟨rfl, by decide +kernel, by decide +kernel, by decide +kernel⟩ ⟨Nat.le_of_ble_eq_true rfl, Nat.le_of_ble_eq_true rfl⟩ hl rfl rfl (Nat.le_of_ble_eq_true rfl) dX13_readHouse_13 ⟨Nat.le_of_ble_eq_true rfl, Nat.le_of_ble_eq_true rfl⟩ (fun z21003 F H locs hT hz21003 => ?_)
  obtain ⟨yz21003, ⟨soz21003, spz21003, faz21003, qsoz21003, qspz21003, qfaz21003, rsoz21003, rspz21003, rfaz21003, stz21003, ptz21003, hkf⟩⟩ := hz21003
  have pf0 := (yz21003.1 _ 4 (Or.inr (by decide)) (Or.inr (by decide)) (Or.inr (by decide)) (Or.inr (by decide)) (Or.inr (by decide)) (Or.inr (by decide)) (Or.inr (by decide)) (Or.inr (by decide))).trans pf0
  have pf1 := (yz21003.1 _ 28 (Or.inr (by decide)) (Or.inr (by decide)) (Or.inr (by decide)) (Or.inr (by decide)) (Or.inr (by decide)) (Or.inr (by decide)) (Or.inr (by decide)) (Or.inr (by decide))).trans pf1
  have pf2 := (yz21003.1 _ 29 (Or.inr (by decide)) (Or.inr (by decide)) (Or.inr (by decide)) (Or.inr (by decide)) (Or.inr (by decide)) (Or.inr (by decide)) (Or.inr (by decide)) (Or.inr (by decide))).trans pf2
  have pf6 := (yz21003.1 _ 12 (Or.inr (by decide)) (Or.inr (by decide)) (Or.inr (by decide)) (Or.inr (by decide)) (Or.inl (by rw [gx0]; decide)) (Or.inr (by decide)) (Or.inr (by decide)) (Or.inr (by decide))).trans pf6
  have pf7 := (yz21003.1 _ 7 (Or.inr (by decide)) (Or.inr (by decide)) (Or.inr (by decide)) (Or.inr (by decide)) (Or.inr (by decide)) (Or.inr (by decide)) (Or.inr (by decide)) (Or.inr (by decide))).trans pf7
  have pf8 := (yz21003.1 _ 8 (Or.inl (by rw [gx0]; decide)) (Or.inr (by decide)) (Or.inr (by decide)) (Or.inr (by decide)) (Or.inr (by decide)) (Or.inr (by decide)) (Or.inr (by decide)) (Or.inr (by decide))).trans pf8
  have pf9 := (yz21003.1 _ 9 (Or.inr (by decide)) (Or.inl (by rw [gx0]; decide)) (Or.inr (by decide)) (Or.inr (by decide)) (Or.inr (by decide)) (Or.inr (by decide)) (Or.inr (by decide)) (Or.inr (by decide))).trans pf9
  have pf10 := (yz21003.1 _ 10 (Or.inr (by decide)) (Or.inr (by decide)) (Or.inl (by rw [gx0]; decide)) (Or.inr (by decide)) (Or.inr (by decide)) (Or.inr (by decide)) (Or.inr (by decide)) (Or.inr (by decide))).trans pf10
  have pf11 := (yz21003.1 _ 0 (Or.inr (by decide)) (Or.inr (by decide)) (Or.inr (by decide)) (Or.inr (by decide)) (Or.inr (by decide)) (Or.inr (by decide)) (Or.inr (by decide)) (Or.inr (by decide))).trans pf11
  have hfr : (∀ b j : Nat, (tag b ≠ 44 ∨ j ≠ 8) → (tag b ≠ 44 ∨ j ≠ 12) → (tag b ≠ 46 ∨ j ≠ 8) → (tag b ≠ 46 ∨ j ≠ 9) → (tag b ≠ 46 ∨ j ≠ 10) → (tag b ≠ 46 ∨ j ≠ 11) → (tag b ≠ 46 ∨ j ≠ 12) → (tag b ≠ 46 ∨ j ≠ 13) → (tag b ≠ 46 ∨ j ≠ 14) → (tag b ≠ 46 ∨ j ≠ 15) → fld F b j = fld Fo b j) ∧ (∀ b j : Nat, tag b ≠ 30 → tag b ≠ 31 → tag b ≠ 34 → tag b ≠ 35 → tag b ≠ 36 → tag b ≠ 37 → elm F b j = elm Fo b j) := ⟨fun b j n44_8 n44_12 n46_8 n46_9 n46_10 n46_11 n46_12 n46_13 n46_14 n46_15 => (yz21003.1 b j n46_8 n46_9 n46_10 n46_11 n46_12 n46_13 n46_14 n46_15).trans (hfr.1 b j n44_8 n44_12 n46_8 n46_9 n46_10 n46_11 n46_12 n46_13 n46_14 n46_15), fun b j a30 a31 a34 a35 a36 a37 => (yz21003.2 b j ).trans (hfr.2 b j a30 a31 a34 a35 a36 a37)⟩
  have hrel := msr_of (fun j => yz21003.2 _ j ) (fun j => yz21003.2 _ j ) hrel
  have hstk := STK.tr hstk stz21003
  have hspt := SPT.tr hspt ptz21003
  refine lv_lstore_n (lv' := [(1, .long z21003), (0, .ref p0)]) hx hb dX13_readHouse_16 rfl hl (by decide) rfl (fun ls hl => ?_)
  refine lv_aload_n hx hb dX13_readHouse_17 rfl (lv_at hl 1 rfl) ?_
  refine m_ldcKw X 68 rfl dX13_readHouse_18 ?_
  refine t_cVv (n := 1) (C := RX13) (T := TX13) (N := 37) (As := [.ref (G.2 (100 + 68))]) (rest := []) X hT (km40_X13_needs l G tag L F hT.2.2.2 p0 68 x0 x1 x2 soz21003 spz21003 faz21003 m0 g0 (by decide) mx0 gx0 pf0 mx1 gx1 pf1 mx2 gx2 pf2 (by omega) qsoz21003 (by omega) qspz21003 (by omega) qfaz21003 hkf) m0 g0 rfl rfl qw_556 qw_557 qw_558 qw_5 qw_559 ⟨rfl, by decide +kernel, by decide +kernel, by decide +kernel⟩ ⟨Nat.le_of_ble_eq_true rfl, Nat.le_of_ble_eq_true rfl⟩ hl rfl rfl (Nat.le_of_ble_eq_true rfl) dX13_readHouse_21 ⟨Nat.le_of_ble_eq_true rfl, Nat.le_of_ble_eq_true rfl⟩ (fun F H locs hT hz21004 => ?_)
  obtain ⟨yz21004, ⟨soz21004, spz21004, faz21004, qsoz21004, qspz21004, qfaz21004, rsoz21004, rspz21004, rfaz21004, stz21004, ptz21004, hkf⟩⟩ := hz21004
  have pf0 := (yz21004.1 _ 4 (Or.inr (by decide)) (Or.inr (by decide)) (Or.inr (by decide)) (Or.inr (by decide)) (Or.inr (by decide)) (Or.inr (by decide)) (Or.inr (by decide)) (Or.inr (by decide))).trans pf0
  have pf1 := (yz21004.1 _ 28 (Or.inr (by decide)) (Or.inr (by decide)) (Or.inr (by decide)) (Or.inr (by decide)) (Or.inr (by decide)) (Or.inr (by decide)) (Or.inr (by decide)) (Or.inr (by decide))).trans pf1
  have pf2 := (yz21004.1 _ 29 (Or.inr (by decide)) (Or.inr (by decide)) (Or.inr (by decide)) (Or.inr (by decide)) (Or.inr (by decide)) (Or.inr (by decide)) (Or.inr (by decide)) (Or.inr (by decide))).trans pf2
  have pf6 := (yz21004.1 _ 12 (Or.inr (by decide)) (Or.inr (by decide)) (Or.inr (by decide)) (Or.inr (by decide)) (Or.inl (by rw [gx0]; decide)) (Or.inr (by decide)) (Or.inr (by decide)) (Or.inr (by decide))).trans pf6
  have pf7 := (yz21004.1 _ 7 (Or.inr (by decide)) (Or.inr (by decide)) (Or.inr (by decide)) (Or.inr (by decide)) (Or.inr (by decide)) (Or.inr (by decide)) (Or.inr (by decide)) (Or.inr (by decide))).trans pf7
  have pf8 := (yz21004.1 _ 8 (Or.inl (by rw [gx0]; decide)) (Or.inr (by decide)) (Or.inr (by decide)) (Or.inr (by decide)) (Or.inr (by decide)) (Or.inr (by decide)) (Or.inr (by decide)) (Or.inr (by decide))).trans pf8
  have pf9 := (yz21004.1 _ 9 (Or.inr (by decide)) (Or.inl (by rw [gx0]; decide)) (Or.inr (by decide)) (Or.inr (by decide)) (Or.inr (by decide)) (Or.inr (by decide)) (Or.inr (by decide)) (Or.inr (by decide))).trans pf9
  have pf10 := (yz21004.1 _ 10 (Or.inr (by decide)) (Or.inr (by decide)) (Or.inl (by rw [gx0]; decide)) (Or.inr (by decide)) (Or.inr (by decide)) (Or.inr (by decide)) (Or.inr (by decide)) (Or.inr (by decide))).trans pf10
  have pf11 := (yz21004.1 _ 0 (Or.inr (by decide)) (Or.inr (by decide)) (Or.inr (by decide)) (Or.inr (by decide)) (Or.inr (by decide)) (Or.inr (by decide)) (Or.inr (by decide)) (Or.inr (by decide))).trans pf11
  have hfr : (∀ b j : Nat, (tag b ≠ 44 ∨ j ≠ 8) → (tag b ≠ 44 ∨ j ≠ 12) → (tag b ≠ 46 ∨ j ≠ 8) → (tag b ≠ 46 ∨ j ≠ 9) → (tag b ≠ 46 ∨ j ≠ 10) → (tag b ≠ 46 ∨ j ≠ 11) → (tag b ≠ 46 ∨ j ≠ 12) → (tag b ≠ 46 ∨ j ≠ 13) → (tag b ≠ 46 ∨ j ≠ 14) → (tag b ≠ 46 ∨ j ≠ 15) → fld F b j = fld Fo b j) ∧ (∀ b j : Nat, tag b ≠ 30 → tag b ≠ 31 → tag b ≠ 34 → tag b ≠ 35 → tag b ≠ 36 → tag b ≠ 37 → elm F b j = elm Fo b j) := ⟨fun b j n44_8 n44_12 n46_8 n46_9 n46_10 n46_11 n46_12 n46_13 n46_14 n46_15 => (yz21004.1 b j n46_8 n46_9 n46_10 n46_11 n46_12 n46_13 n46_14 n46_15).trans (hfr.1 b j n44_8 n44_12 n46_8 n46_9 n46_10 n46_11 n46_12 n46_13 n46_14 n46_15), fun b j a30 a31 a34 a35 a36 a37 => (yz21004.2 b j ).trans (hfr.2 b j a30 a31 a34 a35 a36 a37)⟩
  have hrel := msr_of (fun j => yz21004.2 _ j ) (fun j => yz21004.2 _ j ) hrel
  have hstk := STK.tr hstk stz21004
  have hspt := SPT.tr hspt ptz21004
  refine lv_aload_n hx hb dX13_readHouse_24 rfl (lv_at hl 1 rfl) ?_
  refine t_cVi (n := 0) (C := RX13) (T := TX13) (N := 37) (As := []) (rest := []) X hT (km55_X13_knownCell l G tag L F hT.2.2.2 p0 x0 x1 x2 soz21004 spz21004 faz21004 m0 g0 mx0 gx0 pf0 mx1 gx1 pf1 mx2 gx2 pf2 (by omega) qsoz21004 (by omega) qspz21004 (by omega) qfaz21004 hkf) m0 g0 rfl rfl qw_583 qw_584 qw_585 qw_5 qw_586 ⟨rfl, by decide +kernel, by decide +kernel, by decide +kernel⟩ ⟨Nat.le_of_ble_eq_true rfl, Nat.le_of_ble_eq_true rfl⟩ hl rfl rfl (Nat.le_of_ble_eq_true rfl) dX13_readHouse_25 ⟨Nat.le_of_ble_eq_true rfl, Nat.le_of_ble_eq_true rfl⟩ (fun z21005 F H locs hT hz21005 => ?_)
  obtain ⟨hz21005, yz21005, ⟨soz21005, spz21005, faz21005, qsoz21005, qspz21005, qfaz21005, rsoz21005, rspz21005, rfaz21005, stz21005, ptz21005, hkf⟩⟩ := hz21005
  have pf0 := (yz21005.1 _ 4 (Or.inr (by decide)) (Or.inr (by decide)) (Or.inr (by decide)) (Or.inr (by decide)) (Or.inr (by decide)) (Or.inr (by decide)) (Or.inr (by decide)) (Or.inr (by decide))).trans pf0
  have pf1 := (yz21005.1 _ 28 (Or.inr (by decide)) (Or.inr (by decide)) (Or.inr (by decide)) (Or.inr (by decide)) (Or.inr (by decide)) (Or.inr (by decide)) (Or.inr (by decide)) (Or.inr (by decide))).trans pf1
  have pf2 := (yz21005.1 _ 29 (Or.inr (by decide)) (Or.inr (by decide)) (Or.inr (by decide)) (Or.inr (by decide)) (Or.inr (by decide)) (Or.inr (by decide)) (Or.inr (by decide)) (Or.inr (by decide))).trans pf2
  have pf6 := (yz21005.1 _ 12 (Or.inr (by decide)) (Or.inr (by decide)) (Or.inr (by decide)) (Or.inr (by decide)) (Or.inl (by rw [gx0]; decide)) (Or.inr (by decide)) (Or.inr (by decide)) (Or.inr (by decide))).trans pf6
  have pf7 := (yz21005.1 _ 7 (Or.inr (by decide)) (Or.inr (by decide)) (Or.inr (by decide)) (Or.inr (by decide)) (Or.inr (by decide)) (Or.inr (by decide)) (Or.inr (by decide)) (Or.inr (by decide))).trans pf7
  have pf8 := (yz21005.1 _ 8 (Or.inl (by rw [gx0]; decide)) (Or.inr (by decide)) (Or.inr (by decide)) (Or.inr (by decide)) (Or.inr (by decide)) (Or.inr (by decide)) (Or.inr (by decide)) (Or.inr (by decide))).trans pf8
  have pf9 := (yz21005.1 _ 9 (Or.inr (by decide)) (Or.inl (by rw [gx0]; decide)) (Or.inr (by decide)) (Or.inr (by decide)) (Or.inr (by decide)) (Or.inr (by decide)) (Or.inr (by decide)) (Or.inr (by decide))).trans pf9
  have pf10 := (yz21005.1 _ 10 (Or.inr (by decide)) (Or.inr (by decide)) (Or.inl (by rw [gx0]; decide)) (Or.inr (by decide)) (Or.inr (by decide)) (Or.inr (by decide)) (Or.inr (by decide)) (Or.inr (by decide))).trans pf10
  have pf11 := (yz21005.1 _ 0 (Or.inr (by decide)) (Or.inr (by decide)) (Or.inr (by decide)) (Or.inr (by decide)) (Or.inr (by decide)) (Or.inr (by decide)) (Or.inr (by decide)) (Or.inr (by decide))).trans pf11
  have hfr : (∀ b j : Nat, (tag b ≠ 44 ∨ j ≠ 8) → (tag b ≠ 44 ∨ j ≠ 12) → (tag b ≠ 46 ∨ j ≠ 8) → (tag b ≠ 46 ∨ j ≠ 9) → (tag b ≠ 46 ∨ j ≠ 10) → (tag b ≠ 46 ∨ j ≠ 11) → (tag b ≠ 46 ∨ j ≠ 12) → (tag b ≠ 46 ∨ j ≠ 13) → (tag b ≠ 46 ∨ j ≠ 14) → (tag b ≠ 46 ∨ j ≠ 15) → fld F b j = fld Fo b j) ∧ (∀ b j : Nat, tag b ≠ 30 → tag b ≠ 31 → tag b ≠ 34 → tag b ≠ 35 → tag b ≠ 36 → tag b ≠ 37 → elm F b j = elm Fo b j) := ⟨fun b j n44_8 n44_12 n46_8 n46_9 n46_10 n46_11 n46_12 n46_13 n46_14 n46_15 => (yz21005.1 b j n46_8 n46_9 n46_10 n46_11 n46_12 n46_13 n46_14 n46_15).trans (hfr.1 b j n44_8 n44_12 n46_8 n46_9 n46_10 n46_11 n46_12 n46_13 n46_14 n46_15), fun b j a30 a31 a34 a35 a36 a37 => (yz21005.2 b j ).trans (hfr.2 b j a30 a31 a34 a35 a36 a37)⟩
  have hrel := msr_of (fun j => yz21005.2 _ j ) (fun j => yz21005.2 _ j ) hrel
  have hstk := STK.tr hstk stz21005
  have hspt := SPT.tr hspt ptz21005
  refine lv_istore_n (lv' := [(3, .int z21005), (1, .long z21003), (0, .ref p0)]) hx hb dX13_readHouse_28 rfl hl (by decide) rfl (fun ls hl => ?_)
  refine lv_aload_n hx hb dX13_readHouse_29 rfl (lv_at hl 2 rfl) ?_
  refine t_get (C := RX13) (T := TX13) (N := 37) X hT m0 g0 rfl rfl 9 (by decide) qw_478 inlX13 rfl dX13_readHouse_30 (fun v21006 hv21006 ov21006 => ?_)
  obtain rfl : v21006 = .int soz21005 := hv21006.symm.trans qsoz21005
  refine lv_iconst (v := 5) hx hb dX13_readHouse_33 (by decide) ?_
  refine lv_icmp_eq (tgt := 90) hx hb dX13_readHouse_34 (by decide) (fun c21007 => ?_) (fun c21007 => ?_)
  · have w21008 := cv_eq (rfl : soz21005.toInt = soz21005.toInt) (by decide : (5 : Int32).toInt = 5) c21007
    refine lv_aload_n hx hb dX13_readHouse_90 rfl (lv_at hl 2 rfl) ?_
    refine t_cVv (n := 0) (C := RX13) (T := TX13) (N := 37) (As := []) (rest := []) X hT (km14_X13_goesOn l G tag L F hT.2.2.2 p0 x0 x1 x2 soz21005 spz21005 faz21005 m0 g0 mx0 gx0 pf0 mx1 gx1 pf1 mx2 gx2 pf2 (by omega) qsoz21005 (by omega) qspz21005 (by omega) qfaz21005 hkf) m0 g0 rfl rfl qw_508 qw_509 qw_510 qw_5 qw_511 ⟨rfl, by decide +kernel, by decide +kernel, by decide +kernel⟩ ⟨Nat.le_of_ble_eq_true rfl, Nat.le_of_ble_eq_true rfl⟩ hl rfl rfl (Nat.le_of_ble_eq_true rfl) dX13_readHouse_91 ⟨Nat.le_of_ble_eq_true rfl, Nat.le_of_ble_eq_true rfl⟩ (fun F H locs hT hz21009 => ?_)
    obtain ⟨yz21009, ⟨soz21009, spz21009, faz21009, qsoz21009, qspz21009, qfaz21009, rsoz21009, rspz21009, rfaz21009, stz21009, ptz21009, hkf⟩⟩ := hz21009
    have pf0 := (yz21009.1 _ 4 (Or.inr (by decide)) (Or.inr (by decide)) (Or.inr (by decide)) (Or.inr (by decide)) (Or.inr (by decide)) (Or.inr (by decide))).trans pf0
    have pf1 := (yz21009.1 _ 28 (Or.inr (by decide)) (Or.inr (by decide)) (Or.inr (by decide)) (Or.inr (by decide)) (Or.inr (by decide)) (Or.inr (by decide))).trans pf1
    have pf2 := (yz21009.1 _ 29 (Or.inr (by decide)) (Or.inr (by decide)) (Or.inr (by decide)) (Or.inr (by decide)) (Or.inr (by decide)) (Or.inr (by decide))).trans pf2
    have pf6 := (yz21009.1 _ 12 (Or.inr (by decide)) (Or.inr (by decide)) (Or.inr (by decide)) (Or.inr (by decide)) (Or.inl (by rw [gx0]; decide)) (Or.inr (by decide))).trans pf6
    have pf7 := (yz21009.1 _ 7 (Or.inr (by decide)) (Or.inr (by decide)) (Or.inr (by decide)) (Or.inr (by decide)) (Or.inr (by decide)) (Or.inr (by decide))).trans pf7
    have pf8 := (yz21009.1 _ 8 (Or.inl (by rw [gx0]; decide)) (Or.inr (by decide)) (Or.inr (by decide)) (Or.inr (by decide)) (Or.inr (by decide)) (Or.inr (by decide))).trans pf8
    have pf9 := (yz21009.1 _ 9 (Or.inr (by decide)) (Or.inl (by rw [gx0]; decide)) (Or.inr (by decide)) (Or.inr (by decide)) (Or.inr (by decide)) (Or.inr (by decide))).trans pf9
    have pf10 := (yz21009.1 _ 10 (Or.inr (by decide)) (Or.inr (by decide)) (Or.inl (by rw [gx0]; decide)) (Or.inr (by decide)) (Or.inr (by decide)) (Or.inr (by decide))).trans pf10
    have pf11 := (yz21009.1 _ 0 (Or.inr (by decide)) (Or.inr (by decide)) (Or.inr (by decide)) (Or.inr (by decide)) (Or.inr (by decide)) (Or.inr (by decide))).trans pf11
    have qfaz21005 := (yz21009.1 _ 13 (Or.inr (by decide)) (Or.inr (by decide)) (Or.inr (by decide)) (Or.inr (by decide)) (Or.inr (by decide)) (Or.inr (by decide))).trans qfaz21005
    have hfr : (∀ b j : Nat, (tag b ≠ 44 ∨ j ≠ 8) → (tag b ≠ 44 ∨ j ≠ 12) → (tag b ≠ 46 ∨ j ≠ 8) → (tag b ≠ 46 ∨ j ≠ 9) → (tag b ≠ 46 ∨ j ≠ 10) → (tag b ≠ 46 ∨ j ≠ 11) → (tag b ≠ 46 ∨ j ≠ 12) → (tag b ≠ 46 ∨ j ≠ 13) → (tag b ≠ 46 ∨ j ≠ 14) → (tag b ≠ 46 ∨ j ≠ 15) → fld F b j = fld Fo b j) ∧ (∀ b j : Nat, tag b ≠ 30 → tag b ≠ 31 → tag b ≠ 34 → tag b ≠ 35 → tag b ≠ 36 → tag b ≠ 37 → elm F b j = elm Fo b j) := ⟨fun b j n44_8 n44_12 n46_8 n46_9 n46_10 n46_11 n46_12 n46_13 n46_14 n46_15 => (yz21009.1 b j n46_8 n46_9 n46_10 n46_11 n46_12 n46_15).trans (hfr.1 b j n44_8 n44_12 n46_8 n46_9 n46_10 n46_11 n46_12 n46_13 n46_14 n46_15), fun b j a30 a31 a34 a35 a36 a37 => (yz21009.2 b j ).trans (hfr.2 b j a30 a31 a34 a35 a36 a37)⟩
    have hrel := msr_of (fun j => yz21009.2 _ j ) (fun j => yz21009.2 _ j ) hrel
    have hstk := STK.tr hstk stz21009
    have hspt := SPT.tr hspt ptz21009
    have k5z21009 : soz21009.toInt = 5 := stz21009 (by omega)
    refine lv_aload_n hx hb dX13_readHouse_94 rfl (lv_at hl 2 rfl) ?_
    refine m_ldcKw X 69 rfl dX13_readHouse_95 ?_
    refine t_cVv (n := 1) (C := RX13) (T := TX13) (N := 37) (As := [.ref (G.2 (100 + 69))]) (rest := []) X hT (km40_X13_needs l G tag L F hT.2.2.2 p0 69 x0 x1 x2 soz21009 spz21009 faz21009 m0 g0 (by decide) mx0 gx0 pf0 mx1 gx1 pf1 mx2 gx2 pf2 (by omega) qsoz21009 (by omega) qspz21009 (by omega) qfaz21009 hkf) m0 g0 rfl rfl qw_556 qw_557 qw_558 qw_5 qw_559 ⟨rfl, by decide +kernel, by decide +kernel, by decide +kernel⟩ ⟨Nat.le_of_ble_eq_true rfl, Nat.le_of_ble_eq_true rfl⟩ hl rfl rfl (Nat.le_of_ble_eq_true rfl) dX13_readHouse_98 ⟨Nat.le_of_ble_eq_true rfl, Nat.le_of_ble_eq_true rfl⟩ (fun F H locs hT hz21010 => ?_)
    obtain ⟨yz21010, ⟨soz21010, spz21010, faz21010, qsoz21010, qspz21010, qfaz21010, rsoz21010, rspz21010, rfaz21010, stz21010, ptz21010, hkf⟩⟩ := hz21010
    have pf0 := (yz21010.1 _ 4 (Or.inr (by decide)) (Or.inr (by decide)) (Or.inr (by decide)) (Or.inr (by decide)) (Or.inr (by decide)) (Or.inr (by decide)) (Or.inr (by decide)) (Or.inr (by decide))).trans pf0
    have pf1 := (yz21010.1 _ 28 (Or.inr (by decide)) (Or.inr (by decide)) (Or.inr (by decide)) (Or.inr (by decide)) (Or.inr (by decide)) (Or.inr (by decide)) (Or.inr (by decide)) (Or.inr (by decide))).trans pf1
    have pf2 := (yz21010.1 _ 29 (Or.inr (by decide)) (Or.inr (by decide)) (Or.inr (by decide)) (Or.inr (by decide)) (Or.inr (by decide)) (Or.inr (by decide)) (Or.inr (by decide)) (Or.inr (by decide))).trans pf2
    have pf6 := (yz21010.1 _ 12 (Or.inr (by decide)) (Or.inr (by decide)) (Or.inr (by decide)) (Or.inr (by decide)) (Or.inl (by rw [gx0]; decide)) (Or.inr (by decide)) (Or.inr (by decide)) (Or.inr (by decide))).trans pf6
    have pf7 := (yz21010.1 _ 7 (Or.inr (by decide)) (Or.inr (by decide)) (Or.inr (by decide)) (Or.inr (by decide)) (Or.inr (by decide)) (Or.inr (by decide)) (Or.inr (by decide)) (Or.inr (by decide))).trans pf7
    have pf8 := (yz21010.1 _ 8 (Or.inl (by rw [gx0]; decide)) (Or.inr (by decide)) (Or.inr (by decide)) (Or.inr (by decide)) (Or.inr (by decide)) (Or.inr (by decide)) (Or.inr (by decide)) (Or.inr (by decide))).trans pf8
    have pf9 := (yz21010.1 _ 9 (Or.inr (by decide)) (Or.inl (by rw [gx0]; decide)) (Or.inr (by decide)) (Or.inr (by decide)) (Or.inr (by decide)) (Or.inr (by decide)) (Or.inr (by decide)) (Or.inr (by decide))).trans pf9
    have pf10 := (yz21010.1 _ 10 (Or.inr (by decide)) (Or.inr (by decide)) (Or.inl (by rw [gx0]; decide)) (Or.inr (by decide)) (Or.inr (by decide)) (Or.inr (by decide)) (Or.inr (by decide)) (Or.inr (by decide))).trans pf10
    have pf11 := (yz21010.1 _ 0 (Or.inr (by decide)) (Or.inr (by decide)) (Or.inr (by decide)) (Or.inr (by decide)) (Or.inr (by decide)) (Or.inr (by decide)) (Or.inr (by decide)) (Or.inr (by decide))).trans pf11
    have hfr : (∀ b j : Nat, (tag b ≠ 44 ∨ j ≠ 8) → (tag b ≠ 44 ∨ j ≠ 12) → (tag b ≠ 46 ∨ j ≠ 8) → (tag b ≠ 46 ∨ j ≠ 9) → (tag b ≠ 46 ∨ j ≠ 10) → (tag b ≠ 46 ∨ j ≠ 11) → (tag b ≠ 46 ∨ j ≠ 12) → (tag b ≠ 46 ∨ j ≠ 13) → (tag b ≠ 46 ∨ j ≠ 14) → (tag b ≠ 46 ∨ j ≠ 15) → fld F b j = fld Fo b j) ∧ (∀ b j : Nat, tag b ≠ 30 → tag b ≠ 31 → tag b ≠ 34 → tag b ≠ 35 → tag b ≠ 36 → tag b ≠ 37 → elm F b j = elm Fo b j) := ⟨fun b j n44_8 n44_12 n46_8 n46_9 n46_10 n46_11 n46_12 n46_13 n46_14 n46_15 => (yz21010.1 b j n46_8 n46_9 n46_10 n46_11 n46_12 n46_13 n46_14 n46_15).trans (hfr.1 b j n44_8 n44_12 n46_8 n46_9 n46_10 n46_11 n46_12 n46_13 n46_14 n46_15), fun b j a30 a31 a34 a35 a36 a37 => (yz21010.2 b j ).trans (hfr.2 b j a30 a31 a34 a35 a36 a37)⟩
    have hrel := msr_of (fun j => yz21010.2 _ j ) (fun j => yz21010.2 _ j ) hrel
    have hstk := STK.tr hstk stz21010
    have hspt := SPT.tr hspt ptz21010
    have k5z21010 : soz21010.toInt = 5 := stz21010 (by omega)
    refine lv_aload_n hx hb dX13_readHouse_101 rfl (lv_at hl 2 rfl) ?_
    refine lv_iconst (v := 0) hx hb dX13_readHouse_102 (by decide) ?_
    refine t_cVi (n := 1) (C := RX13) (T := TX13) (N := 37) (As := [.int 0]) (rest := []) X hT (km36_X13_readKnown l G tag L F hT.2.2.2 p0 0 x0 x1 x2 soz21010 spz21010 faz21010 m0 g0 (by decide) mx0 gx0 pf0 mx1 gx1 pf1 mx2 gx2 pf2 (by omega) qsoz21010 (by omega) qspz21010 (by omega) qfaz21010 hrel hkf) m0 g0 rfl rfl qw_632 qw_633 qw_634 qw_5 qw_635 ⟨rfl, by decide +kernel, by decide +kernel, by decide +kernel⟩ ⟨Nat.le_of_ble_eq_true rfl, Nat.le_of_ble_eq_true rfl⟩ hl rfl rfl (Nat.le_of_ble_eq_true rfl) dX13_readHouse_103 ⟨Nat.le_of_ble_eq_true rfl, Nat.le_of_ble_eq_true rfl⟩ (fun z21011 F H locs hT hz21011 => ?_)
    obtain ⟨hz21011, yz21011, hrel, ⟨soz21011, spz21011, faz21011, qsoz21011, qspz21011, qfaz21011, rsoz21011, rspz21011, rfaz21011, stz21011, ptz21011, hkf⟩⟩ := hz21011
    have pf0 := (yz21011.1 _ 4 (Or.inr (by decide)) (Or.inr (by decide)) (Or.inr (by decide)) (Or.inr (by decide)) (Or.inr (by decide)) (Or.inr (by decide)) (Or.inr (by decide)) (Or.inr (by decide))).trans pf0
    have pf1 := (yz21011.1 _ 28 (Or.inr (by decide)) (Or.inr (by decide)) (Or.inr (by decide)) (Or.inr (by decide)) (Or.inr (by decide)) (Or.inr (by decide)) (Or.inr (by decide)) (Or.inr (by decide))).trans pf1
    have pf2 := (yz21011.1 _ 29 (Or.inr (by decide)) (Or.inr (by decide)) (Or.inr (by decide)) (Or.inr (by decide)) (Or.inr (by decide)) (Or.inr (by decide)) (Or.inr (by decide)) (Or.inr (by decide))).trans pf2
    have pf6 := (yz21011.1 _ 12 (Or.inr (by decide)) (Or.inr (by decide)) (Or.inr (by decide)) (Or.inr (by decide)) (Or.inl (by rw [gx0]; decide)) (Or.inr (by decide)) (Or.inr (by decide)) (Or.inr (by decide))).trans pf6
    have pf7 := (yz21011.1 _ 7 (Or.inr (by decide)) (Or.inr (by decide)) (Or.inr (by decide)) (Or.inr (by decide)) (Or.inr (by decide)) (Or.inr (by decide)) (Or.inr (by decide)) (Or.inr (by decide))).trans pf7
    have pf8 := (yz21011.1 _ 8 (Or.inl (by rw [gx0]; decide)) (Or.inr (by decide)) (Or.inr (by decide)) (Or.inr (by decide)) (Or.inr (by decide)) (Or.inr (by decide)) (Or.inr (by decide)) (Or.inr (by decide))).trans pf8
    have pf9 := (yz21011.1 _ 9 (Or.inr (by decide)) (Or.inl (by rw [gx0]; decide)) (Or.inr (by decide)) (Or.inr (by decide)) (Or.inr (by decide)) (Or.inr (by decide)) (Or.inr (by decide)) (Or.inr (by decide))).trans pf9
    have pf10 := (yz21011.1 _ 10 (Or.inr (by decide)) (Or.inr (by decide)) (Or.inl (by rw [gx0]; decide)) (Or.inr (by decide)) (Or.inr (by decide)) (Or.inr (by decide)) (Or.inr (by decide)) (Or.inr (by decide))).trans pf10
    have pf11 := (yz21011.1 _ 0 (Or.inr (by decide)) (Or.inr (by decide)) (Or.inr (by decide)) (Or.inr (by decide)) (Or.inr (by decide)) (Or.inr (by decide)) (Or.inr (by decide)) (Or.inr (by decide))).trans pf11
    have hfr : (∀ b j : Nat, (tag b ≠ 44 ∨ j ≠ 8) → (tag b ≠ 44 ∨ j ≠ 12) → (tag b ≠ 46 ∨ j ≠ 8) → (tag b ≠ 46 ∨ j ≠ 9) → (tag b ≠ 46 ∨ j ≠ 10) → (tag b ≠ 46 ∨ j ≠ 11) → (tag b ≠ 46 ∨ j ≠ 12) → (tag b ≠ 46 ∨ j ≠ 13) → (tag b ≠ 46 ∨ j ≠ 14) → (tag b ≠ 46 ∨ j ≠ 15) → fld F b j = fld Fo b j) ∧ (∀ b j : Nat, tag b ≠ 30 → tag b ≠ 31 → tag b ≠ 34 → tag b ≠ 35 → tag b ≠ 36 → tag b ≠ 37 → elm F b j = elm Fo b j) := ⟨fun b j n44_8 n44_12 n46_8 n46_9 n46_10 n46_11 n46_12 n46_13 n46_14 n46_15 => (yz21011.1 b j n46_8 n46_9 n46_10 n46_11 n46_12 n46_13 n46_14 n46_15).trans (hfr.1 b j n44_8 n44_12 n46_8 n46_9 n46_10 n46_11 n46_12 n46_13 n46_14 n46_15), fun b j a30 a31 a34 a35 a36 a37 => (yz21011.2 b j ).trans (hfr.2 b j a30 a31 a34 a35 a36 a37)⟩
    have hstk := STK.tr hstk stz21011
    have hspt := SPT.tr hspt ptz21011
    have k5z21011 : soz21011.toInt = 5 := stz21011 (by omega)
    refine lv_istore (lv' := [(4, .int z21011), (3, .int z21005), (1, .long z21003), (0, .ref p0)]) hx hb dX13_readHouse_106 hl (by decide) rfl (fun ls hl => ?_)
    refine lv_aload_n hx hb dX13_readHouse_108 rfl (lv_at hl 3 rfl) ?_
    refine m_ldcKw X 70 rfl dX13_readHouse_109 ?_
    refine lv_iconst (v := 0) hx hb dX13_readHouse_112 (by decide) ?_
    refine lv_bipush (v := 99) hx hb dX13_readHouse_113 (by decide) ?_
    refine t_cVi (n := 3) (C := RX13) (T := TX13) (N := 37) (As := [.ref (G.2 (100 + 70)), .int 0, .int 99]) (rest := []) X hT (km43_X13_readPart l G tag L F hT.2.2.2 p0 70 0 99 x0 x1 x2 soz21011 spz21011 faz21011 m0 g0 (by decide) (by decide) (by decide) mx0 gx0 pf0 mx1 gx1 pf1 mx2 gx2 pf2 (by omega) qsoz21011 (by omega) qspz21011 (by omega) qfaz21011 hkf) m0 g0 rfl rfl qw_552 qw_553 qw_554 qw_5 qw_555 ⟨rfl, by decide +kernel, by decide +kernel, by decide +kernel⟩ ⟨Nat.le_of_ble_eq_true rfl, Nat.le_of_ble_eq_true rfl⟩ hl rfl rfl (Nat.le_of_ble_eq_true rfl) dX13_readHouse_115 ⟨Nat.le_of_ble_eq_true rfl, Nat.le_of_ble_eq_true rfl⟩ (fun z21012 F H locs hT hz21012 => ?_)
    obtain ⟨hz21012, yz21012, ⟨soz21012, spz21012, faz21012, qsoz21012, qspz21012, qfaz21012, rsoz21012, rspz21012, rfaz21012, stz21012, ptz21012, hkf⟩⟩ := hz21012
    have pf0 := (yz21012.1 _ 4 (Or.inr (by decide)) (Or.inr (by decide)) (Or.inr (by decide)) (Or.inr (by decide)) (Or.inr (by decide)) (Or.inr (by decide)) (Or.inr (by decide)) (Or.inr (by decide))).trans pf0
    have pf1 := (yz21012.1 _ 28 (Or.inr (by decide)) (Or.inr (by decide)) (Or.inr (by decide)) (Or.inr (by decide)) (Or.inr (by decide)) (Or.inr (by decide)) (Or.inr (by decide)) (Or.inr (by decide))).trans pf1
    have pf2 := (yz21012.1 _ 29 (Or.inr (by decide)) (Or.inr (by decide)) (Or.inr (by decide)) (Or.inr (by decide)) (Or.inr (by decide)) (Or.inr (by decide)) (Or.inr (by decide)) (Or.inr (by decide))).trans pf2
    have pf6 := (yz21012.1 _ 12 (Or.inr (by decide)) (Or.inr (by decide)) (Or.inr (by decide)) (Or.inr (by decide)) (Or.inl (by rw [gx0]; decide)) (Or.inr (by decide)) (Or.inr (by decide)) (Or.inr (by decide))).trans pf6
    have pf7 := (yz21012.1 _ 7 (Or.inr (by decide)) (Or.inr (by decide)) (Or.inr (by decide)) (Or.inr (by decide)) (Or.inr (by decide)) (Or.inr (by decide)) (Or.inr (by decide)) (Or.inr (by decide))).trans pf7
    have pf8 := (yz21012.1 _ 8 (Or.inl (by rw [gx0]; decide)) (Or.inr (by decide)) (Or.inr (by decide)) (Or.inr (by decide)) (Or.inr (by decide)) (Or.inr (by decide)) (Or.inr (by decide)) (Or.inr (by decide))).trans pf8
    have pf9 := (yz21012.1 _ 9 (Or.inr (by decide)) (Or.inl (by rw [gx0]; decide)) (Or.inr (by decide)) (Or.inr (by decide)) (Or.inr (by decide)) (Or.inr (by decide)) (Or.inr (by decide)) (Or.inr (by decide))).trans pf9
    have pf10 := (yz21012.1 _ 10 (Or.inr (by decide)) (Or.inr (by decide)) (Or.inl (by rw [gx0]; decide)) (Or.inr (by decide)) (Or.inr (by decide)) (Or.inr (by decide)) (Or.inr (by decide)) (Or.inr (by decide))).trans pf10
    have pf11 := (yz21012.1 _ 0 (Or.inr (by decide)) (Or.inr (by decide)) (Or.inr (by decide)) (Or.inr (by decide)) (Or.inr (by decide)) (Or.inr (by decide)) (Or.inr (by decide)) (Or.inr (by decide))).trans pf11
    have hfr : (∀ b j : Nat, (tag b ≠ 44 ∨ j ≠ 8) → (tag b ≠ 44 ∨ j ≠ 12) → (tag b ≠ 46 ∨ j ≠ 8) → (tag b ≠ 46 ∨ j ≠ 9) → (tag b ≠ 46 ∨ j ≠ 10) → (tag b ≠ 46 ∨ j ≠ 11) → (tag b ≠ 46 ∨ j ≠ 12) → (tag b ≠ 46 ∨ j ≠ 13) → (tag b ≠ 46 ∨ j ≠ 14) → (tag b ≠ 46 ∨ j ≠ 15) → fld F b j = fld Fo b j) ∧ (∀ b j : Nat, tag b ≠ 30 → tag b ≠ 31 → tag b ≠ 34 → tag b ≠ 35 → tag b ≠ 36 → tag b ≠ 37 → elm F b j = elm Fo b j) := ⟨fun b j n44_8 n44_12 n46_8 n46_9 n46_10 n46_11 n46_12 n46_13 n46_14 n46_15 => (yz21012.1 b j n46_8 n46_9 n46_10 n46_11 n46_12 n46_13 n46_14 n46_15).trans (hfr.1 b j n44_8 n44_12 n46_8 n46_9 n46_10 n46_11 n46_12 n46_13 n46_14 n46_15), fun b j a30 a31 a34 a35 a36 a37 => (yz21012.2 b j ).trans (hfr.2 b j a30 a31 a34 a35 a36 a37)⟩
    have hrel := msr_of (fun j => yz21012.2 _ j ) (fun j => yz21012.2 _ j ) hrel
    have hstk := STK.tr hstk stz21012
    have hspt := SPT.tr hspt ptz21012
    have k5z21012 : soz21012.toInt = 5 := stz21012 (by omega)
    refine lv_istore (lv' := [(5, .int z21012), (4, .int z21011), (3, .int z21005), (1, .long z21003), (0, .ref p0)]) hx hb dX13_readHouse_118 hl (by decide) rfl (fun ls hl => ?_)
    refine lv_aload_n hx hb dX13_readHouse_120 rfl (lv_at hl 4 rfl) ?_
    refine m_ldcKw X 71 rfl dX13_readHouse_121 ?_
    refine lv_iconst (v := 0) hx hb dX13_readHouse_124 (by decide) ?_
    refine lv_sipush (v := 999) hx hb dX13_readHouse_125 (by decide) ?_
    refine t_cVi (n := 3) (C := RX13) (T := TX13) (N := 37) (As := [.ref (G.2 (100 + 71)), .int 0, .int 999]) (rest := []) X hT (km56_X13_readPart l G tag L F hT.2.2.2 p0 71 0 999 x0 x1 x2 soz21012 spz21012 faz21012 m0 g0 (by decide) (by decide) (by decide) mx0 gx0 pf0 mx1 gx1 pf1 mx2 gx2 pf2 (by omega) qsoz21012 (by omega) qspz21012 (by omega) qfaz21012 hkf) m0 g0 rfl rfl qw_552 qw_553 qw_554 qw_5 qw_555 ⟨rfl, by decide +kernel, by decide +kernel, by decide +kernel⟩ ⟨Nat.le_of_ble_eq_true rfl, Nat.le_of_ble_eq_true rfl⟩ hl rfl rfl (Nat.le_of_ble_eq_true rfl) dX13_readHouse_128 ⟨Nat.le_of_ble_eq_true rfl, Nat.le_of_ble_eq_true rfl⟩ (fun z21013 F H locs hT hz21013 => ?_)
    obtain ⟨hz21013, yz21013, ⟨soz21013, spz21013, faz21013, qsoz21013, qspz21013, qfaz21013, rsoz21013, rspz21013, rfaz21013, stz21013, ptz21013, hkf⟩⟩ := hz21013
    have pf0 := (yz21013.1 _ 4 (Or.inr (by decide)) (Or.inr (by decide)) (Or.inr (by decide)) (Or.inr (by decide)) (Or.inr (by decide)) (Or.inr (by decide)) (Or.inr (by decide)) (Or.inr (by decide))).trans pf0
    have pf1 := (yz21013.1 _ 28 (Or.inr (by decide)) (Or.inr (by decide)) (Or.inr (by decide)) (Or.inr (by decide)) (Or.inr (by decide)) (Or.inr (by decide)) (Or.inr (by decide)) (Or.inr (by decide))).trans pf1
    have pf2 := (yz21013.1 _ 29 (Or.inr (by decide)) (Or.inr (by decide)) (Or.inr (by decide)) (Or.inr (by decide)) (Or.inr (by decide)) (Or.inr (by decide)) (Or.inr (by decide)) (Or.inr (by decide))).trans pf2
    have pf6 := (yz21013.1 _ 12 (Or.inr (by decide)) (Or.inr (by decide)) (Or.inr (by decide)) (Or.inr (by decide)) (Or.inl (by rw [gx0]; decide)) (Or.inr (by decide)) (Or.inr (by decide)) (Or.inr (by decide))).trans pf6
    have pf7 := (yz21013.1 _ 7 (Or.inr (by decide)) (Or.inr (by decide)) (Or.inr (by decide)) (Or.inr (by decide)) (Or.inr (by decide)) (Or.inr (by decide)) (Or.inr (by decide)) (Or.inr (by decide))).trans pf7
    have pf8 := (yz21013.1 _ 8 (Or.inl (by rw [gx0]; decide)) (Or.inr (by decide)) (Or.inr (by decide)) (Or.inr (by decide)) (Or.inr (by decide)) (Or.inr (by decide)) (Or.inr (by decide)) (Or.inr (by decide))).trans pf8
    have pf9 := (yz21013.1 _ 9 (Or.inr (by decide)) (Or.inl (by rw [gx0]; decide)) (Or.inr (by decide)) (Or.inr (by decide)) (Or.inr (by decide)) (Or.inr (by decide)) (Or.inr (by decide)) (Or.inr (by decide))).trans pf9
    have pf10 := (yz21013.1 _ 10 (Or.inr (by decide)) (Or.inr (by decide)) (Or.inl (by rw [gx0]; decide)) (Or.inr (by decide)) (Or.inr (by decide)) (Or.inr (by decide)) (Or.inr (by decide)) (Or.inr (by decide))).trans pf10
    have pf11 := (yz21013.1 _ 0 (Or.inr (by decide)) (Or.inr (by decide)) (Or.inr (by decide)) (Or.inr (by decide)) (Or.inr (by decide)) (Or.inr (by decide)) (Or.inr (by decide)) (Or.inr (by decide))).trans pf11
    have hfr : (∀ b j : Nat, (tag b ≠ 44 ∨ j ≠ 8) → (tag b ≠ 44 ∨ j ≠ 12) → (tag b ≠ 46 ∨ j ≠ 8) → (tag b ≠ 46 ∨ j ≠ 9) → (tag b ≠ 46 ∨ j ≠ 10) → (tag b ≠ 46 ∨ j ≠ 11) → (tag b ≠ 46 ∨ j ≠ 12) → (tag b ≠ 46 ∨ j ≠ 13) → (tag b ≠ 46 ∨ j ≠ 14) → (tag b ≠ 46 ∨ j ≠ 15) → fld F b j = fld Fo b j) ∧ (∀ b j : Nat, tag b ≠ 30 → tag b ≠ 31 → tag b ≠ 34 → tag b ≠ 35 → tag b ≠ 36 → tag b ≠ 37 → elm F b j = elm Fo b j) := ⟨fun b j n44_8 n44_12 n46_8 n46_9 n46_10 n46_11 n46_12 n46_13 n46_14 n46_15 => (yz21013.1 b j n46_8 n46_9 n46_10 n46_11 n46_12 n46_13 n46_14 n46_15).trans (hfr.1 b j n44_8 n44_12 n46_8 n46_9 n46_10 n46_11 n46_12 n46_13 n46_14 n46_15), fun b j a30 a31 a34 a35 a36 a37 => (yz21013.2 b j ).trans (hfr.2 b j a30 a31 a34 a35 a36 a37)⟩
    have hrel := msr_of (fun j => yz21013.2 _ j ) (fun j => yz21013.2 _ j ) hrel
    have hstk := STK.tr hstk stz21013
    have hspt := SPT.tr hspt ptz21013
    have k5z21013 : soz21013.toInt = 5 := stz21013 (by omega)
    refine lv_istore (lv' := [(6, .int z21013), (5, .int z21012), (4, .int z21011), (3, .int z21005), (1, .long z21003), (0, .ref p0)]) hx hb dX13_readHouse_131 hl (by decide) rfl (fun ls hl => ?_)
    refine lv_aload_n hx hb dX13_readHouse_133 rfl (lv_at hl 5 rfl) ?_
    refine t_get (C := RX13) (T := TX13) (N := 37) X hT m0 g0 rfl rfl 9 (by decide) qw_478 inlX13 rfl dX13_readHouse_134 (fun v21014 hv21014 ov21014 => ?_)
    obtain rfl : v21014 = .int soz21013 := hv21014.symm.trans qsoz21013
    refine lv_iconst (v := 5) hx hb dX13_readHouse_137 (by decide) ?_
    refine lv_icmp_ne (tgt := 142) hx hb dX13_readHouse_138 (by decide) (fun c21015 => ?_) (fun c21015 => ?_)
    · have w21016 := cv_ne (rfl : soz21013.toInt = soz21013.toInt) (by decide : (5 : Int32).toInt = 5) c21015
      exfalso
      omega
    · have w21017 := cv_eq (rfl : soz21013.toInt = soz21013.toInt) (by decide : (5 : Int32).toInt = 5) c21015
      exact t_vret hQ X hT ⟨hfr, hrel, ⟨soz21013, spz21013, faz21013, qsoz21013, qspz21013, qfaz21013, (by omega), (by omega), (by omega), hstk, hspt, hkf⟩, ⟨x6, x7, x8, x9, x10, x11, pf6, pf7, pf8, pf9, pf10, pf11, (by omega), (by omega), (by omega), (by omega), (by omega), (by omega), hpl⟩⟩ (Nat.le_of_ble_eq_true rfl) (Nat.le_of_ble_eq_true rfl) dX13_readHouse_141
  · have w21018 := cv_ne (rfl : soz21005.toInt = soz21005.toInt) (by decide : (5 : Int32).toInt = 5) c21007
    have w21019 := (fun h9 => (fun h9 => (fun h9 => pxz21001_0 (fun e9 => h9 (stz21003 e9))) (fun e9 => h9 (stz21004 e9))) (fun e9 => h9 (stz21005 e9))) (by omega)
    have w21020 := (fun h9 => (fun h9 => (fun h9 => pxz21001_0 (fun e9 => h9 (stz21003 e9))) (fun e9 => h9 (stz21004 e9))) (fun e9 => h9 (stz21005 e9))) (by omega)
    refine lv_aload_n hx hb dX13_readHouse_37 rfl (lv_at hl 2 rfl) ?_
    refine t_get (C := RX13) (T := TX13) (N := 37) X hT m0 g0 rfl rfl 4 (by decide) qw_477 inlX13 rfl dX13_readHouse_38 (fun v21021 hv21021 ov21021 => ?_)
    obtain rfl : v21021 = .ref x0 := hv21021.symm.trans pf0
    refine t_getN (C := RX12) (T := TX12) (N := 31) X hT mx0 gx0 rfl rfl 15 (by decide) (List.mem_of_getElem? (i := 19) rfl) inlX12 rfl dX13_readHouse_41 (fun v21022 hv21022 ov21022 => ?_)
    obtain ⟨b21023, rfl, mb21023, gb21023⟩ := okV_r ov21022
    have gb21023 : tag b21023 = 28 := tg_of gb21023
    refine lv_iload_n hx hb dX13_readHouse_44 rfl (lv_at hl 0 rfl) ?_
    refine t_zld X hT mb21023 gb21023 rfl (by omega) dX13_readHouse_45 (fun z21024 vz21024 rz21024 => ?_)
    have rz21024 : 0 ≤ z21024.toInt ∧ z21024.toInt ≤ 1 := rz21024
    refine lv_if_ne (tgt := 84) hx hb dX13_readHouse_46 (by decide) (fun c21025 => ?_) (fun c21025 => ?_)
    · have w21026 := cv_ne (rfl : z21024.toInt = z21024.toInt) (by decide : (0 : Int32).toInt = 0) c21025
      refine lv_aload_n hx hb dX13_readHouse_84 rfl (lv_at hl 2 rfl) ?_
      refine lv_bipush (v := 7) hx hb dX13_readHouse_85 (by decide) ?_
      refine t_cVv (n := 1) (C := RX13) (T := TX13) (N := 37) (As := [.int 7]) (rest := []) X hT (km10_X13_flaw l G tag L F hT.2.2.2 p0 7 x0 x1 x2 soz21005 spz21005 faz21005 m0 g0 (by decide) mx0 gx0 pf0 mx1 gx1 pf1 mx2 gx2 pf2 (by omega) qsoz21005 (by omega) qspz21005 (by omega) qfaz21005 hkf) m0 g0 rfl rfl qw_548 qw_549 qw_550 qw_5 qw_551 ⟨rfl, by decide +kernel, by decide +kernel, by decide +kernel⟩ ⟨Nat.le_of_ble_eq_true rfl, Nat.le_of_ble_eq_true rfl⟩ hl rfl rfl (Nat.le_of_ble_eq_true rfl) dX13_readHouse_87 ⟨Nat.le_of_ble_eq_true rfl, Nat.le_of_ble_eq_true rfl⟩ (fun F H locs hT hz21027 => ?_)
      obtain ⟨yz21027, ⟨soz21027, spz21027, faz21027, qsoz21027, qspz21027, qfaz21027, rsoz21027, rspz21027, rfaz21027, stz21027, ptz21027, hkf, pxz21027_0⟩⟩ := hz21027
      have pf0 := (yz21027.1 _ 4 (Or.inr (by decide)) (Or.inr (by decide)) (Or.inr (by decide))).trans pf0
      have pf1 := (yz21027.1 _ 28 (Or.inr (by decide)) (Or.inr (by decide)) (Or.inr (by decide))).trans pf1
      have pf2 := (yz21027.1 _ 29 (Or.inr (by decide)) (Or.inr (by decide)) (Or.inr (by decide))).trans pf2
      have pf6 := (yz21027.1 _ 12 (Or.inr (by decide)) (Or.inr (by decide)) (Or.inr (by decide))).trans pf6
      have pf7 := (yz21027.1 _ 7 (Or.inr (by decide)) (Or.inr (by decide)) (Or.inr (by decide))).trans pf7
      have pf8 := (yz21027.1 _ 8 (Or.inr (by decide)) (Or.inr (by decide)) (Or.inr (by decide))).trans pf8
      have pf9 := (yz21027.1 _ 9 (Or.inl (by rw [gx0]; decide)) (Or.inr (by decide)) (Or.inr (by decide))).trans pf9
      have pf10 := (yz21027.1 _ 10 (Or.inr (by decide)) (Or.inr (by decide)) (Or.inr (by decide))).trans pf10
      have pf11 := (yz21027.1 _ 0 (Or.inr (by decide)) (Or.inr (by decide)) (Or.inr (by decide))).trans pf11
      have qspz21005 := (yz21027.1 _ 8 (Or.inr (by decide)) (Or.inr (by decide)) (Or.inr (by decide))).trans qspz21005
      have hv21022 := (yz21027.1 _ 15 (Or.inr (by decide)) (Or.inr (by decide)) (Or.inr (by decide))).trans hv21022
      have vz21024 := (yz21027.2 _ _ ).trans vz21024
      have hfr : (∀ b j : Nat, (tag b ≠ 44 ∨ j ≠ 8) → (tag b ≠ 44 ∨ j ≠ 12) → (tag b ≠ 46 ∨ j ≠ 8) → (tag b ≠ 46 ∨ j ≠ 9) → (tag b ≠ 46 ∨ j ≠ 10) → (tag b ≠ 46 ∨ j ≠ 11) → (tag b ≠ 46 ∨ j ≠ 12) → (tag b ≠ 46 ∨ j ≠ 13) → (tag b ≠ 46 ∨ j ≠ 14) → (tag b ≠ 46 ∨ j ≠ 15) → fld F b j = fld Fo b j) ∧ (∀ b j : Nat, tag b ≠ 30 → tag b ≠ 31 → tag b ≠ 34 → tag b ≠ 35 → tag b ≠ 36 → tag b ≠ 37 → elm F b j = elm Fo b j) := ⟨fun b j n44_8 n44_12 n46_8 n46_9 n46_10 n46_11 n46_12 n46_13 n46_14 n46_15 => (yz21027.1 b j n46_9 n46_13 n46_14).trans (hfr.1 b j n44_8 n44_12 n46_8 n46_9 n46_10 n46_11 n46_12 n46_13 n46_14 n46_15), fun b j a30 a31 a34 a35 a36 a37 => (yz21027.2 b j ).trans (hfr.2 b j a30 a31 a34 a35 a36 a37)⟩
      have hrel := msr_of (fun j => yz21027.2 _ j ) (fun j => yz21027.2 _ j ) hrel
      have hstk := STK.tr hstk stz21027
      have hspt := SPT.tr hspt ptz21027
      refine lv_aload_n hx hb dX13_readHouse_90 rfl (lv_at hl 2 rfl) ?_
      refine t_cVv (n := 0) (C := RX13) (T := TX13) (N := 37) (As := []) (rest := []) X hT (km14_X13_goesOn l G tag L F hT.2.2.2 p0 x0 x1 x2 soz21027 spz21027 faz21027 m0 g0 mx0 gx0 pf0 mx1 gx1 pf1 mx2 gx2 pf2 (by omega) qsoz21027 (by omega) qspz21027 (by omega) qfaz21027 hkf) m0 g0 rfl rfl qw_508 qw_509 qw_510 qw_5 qw_511 ⟨rfl, by decide +kernel, by decide +kernel, by decide +kernel⟩ ⟨Nat.le_of_ble_eq_true rfl, Nat.le_of_ble_eq_true rfl⟩ hl rfl rfl (Nat.le_of_ble_eq_true rfl) dX13_readHouse_91 ⟨Nat.le_of_ble_eq_true rfl, Nat.le_of_ble_eq_true rfl⟩ (fun F H locs hT hz21028 => ?_)
      obtain ⟨yz21028, ⟨soz21028, spz21028, faz21028, qsoz21028, qspz21028, qfaz21028, rsoz21028, rspz21028, rfaz21028, stz21028, ptz21028, hkf⟩⟩ := hz21028
      have pf0 := (yz21028.1 _ 4 (Or.inr (by decide)) (Or.inr (by decide)) (Or.inr (by decide)) (Or.inr (by decide)) (Or.inr (by decide)) (Or.inr (by decide))).trans pf0
      have pf1 := (yz21028.1 _ 28 (Or.inr (by decide)) (Or.inr (by decide)) (Or.inr (by decide)) (Or.inr (by decide)) (Or.inr (by decide)) (Or.inr (by decide))).trans pf1
      have pf2 := (yz21028.1 _ 29 (Or.inr (by decide)) (Or.inr (by decide)) (Or.inr (by decide)) (Or.inr (by decide)) (Or.inr (by decide)) (Or.inr (by decide))).trans pf2
      have pf6 := (yz21028.1 _ 12 (Or.inr (by decide)) (Or.inr (by decide)) (Or.inr (by decide)) (Or.inr (by decide)) (Or.inl (by rw [gx0]; decide)) (Or.inr (by decide))).trans pf6
      have pf7 := (yz21028.1 _ 7 (Or.inr (by decide)) (Or.inr (by decide)) (Or.inr (by decide)) (Or.inr (by decide)) (Or.inr (by decide)) (Or.inr (by decide))).trans pf7
      have pf8 := (yz21028.1 _ 8 (Or.inl (by rw [gx0]; decide)) (Or.inr (by decide)) (Or.inr (by decide)) (Or.inr (by decide)) (Or.inr (by decide)) (Or.inr (by decide))).trans pf8
      have pf9 := (yz21028.1 _ 9 (Or.inr (by decide)) (Or.inl (by rw [gx0]; decide)) (Or.inr (by decide)) (Or.inr (by decide)) (Or.inr (by decide)) (Or.inr (by decide))).trans pf9
      have pf10 := (yz21028.1 _ 10 (Or.inr (by decide)) (Or.inr (by decide)) (Or.inl (by rw [gx0]; decide)) (Or.inr (by decide)) (Or.inr (by decide)) (Or.inr (by decide))).trans pf10
      have pf11 := (yz21028.1 _ 0 (Or.inr (by decide)) (Or.inr (by decide)) (Or.inr (by decide)) (Or.inr (by decide)) (Or.inr (by decide)) (Or.inr (by decide))).trans pf11
      have hv21022 := (yz21028.1 _ 15 (Or.inr (by decide)) (Or.inr (by decide)) (Or.inr (by decide)) (Or.inr (by decide)) (Or.inr (by decide)) (Or.inl (by rw [gx0]; decide))).trans hv21022
      have vz21024 := (yz21028.2 _ _ ).trans vz21024
      have qfaz21027 := (yz21028.1 _ 13 (Or.inr (by decide)) (Or.inr (by decide)) (Or.inr (by decide)) (Or.inr (by decide)) (Or.inr (by decide)) (Or.inr (by decide))).trans qfaz21027
      have hfr : (∀ b j : Nat, (tag b ≠ 44 ∨ j ≠ 8) → (tag b ≠ 44 ∨ j ≠ 12) → (tag b ≠ 46 ∨ j ≠ 8) → (tag b ≠ 46 ∨ j ≠ 9) → (tag b ≠ 46 ∨ j ≠ 10) → (tag b ≠ 46 ∨ j ≠ 11) → (tag b ≠ 46 ∨ j ≠ 12) → (tag b ≠ 46 ∨ j ≠ 13) → (tag b ≠ 46 ∨ j ≠ 14) → (tag b ≠ 46 ∨ j ≠ 15) → fld F b j = fld Fo b j) ∧ (∀ b j : Nat, tag b ≠ 30 → tag b ≠ 31 → tag b ≠ 34 → tag b ≠ 35 → tag b ≠ 36 → tag b ≠ 37 → elm F b j = elm Fo b j) := ⟨fun b j n44_8 n44_12 n46_8 n46_9 n46_10 n46_11 n46_12 n46_13 n46_14 n46_15 => (yz21028.1 b j n46_8 n46_9 n46_10 n46_11 n46_12 n46_15).trans (hfr.1 b j n44_8 n44_12 n46_8 n46_9 n46_10 n46_11 n46_12 n46_13 n46_14 n46_15), fun b j a30 a31 a34 a35 a36 a37 => (yz21028.2 b j ).trans (hfr.2 b j a30 a31 a34 a35 a36 a37)⟩
      have hrel := msr_of (fun j => yz21028.2 _ j ) (fun j => yz21028.2 _ j ) hrel
      have hstk := STK.tr hstk stz21028
      have hspt := SPT.tr hspt ptz21028
      have k5z21028 : soz21028.toInt = 5 := stz21028 (by omega)
      refine lv_aload_n hx hb dX13_readHouse_94 rfl (lv_at hl 2 rfl) ?_
      refine m_ldcKw X 69 rfl dX13_readHouse_95 ?_
      refine t_cVv (n := 1) (C := RX13) (T := TX13) (N := 37) (As := [.ref (G.2 (100 + 69))]) (rest := []) X hT (km40_X13_needs l G tag L F hT.2.2.2 p0 69 x0 x1 x2 soz21028 spz21028 faz21028 m0 g0 (by decide) mx0 gx0 pf0 mx1 gx1 pf1 mx2 gx2 pf2 (by omega) qsoz21028 (by omega) qspz21028 (by omega) qfaz21028 hkf) m0 g0 rfl rfl qw_556 qw_557 qw_558 qw_5 qw_559 ⟨rfl, by decide +kernel, by decide +kernel, by decide +kernel⟩ ⟨Nat.le_of_ble_eq_true rfl, Nat.le_of_ble_eq_true rfl⟩ hl rfl rfl (Nat.le_of_ble_eq_true rfl) dX13_readHouse_98 ⟨Nat.le_of_ble_eq_true rfl, Nat.le_of_ble_eq_true rfl⟩ (fun F H locs hT hz21029 => ?_)
      obtain ⟨yz21029, ⟨soz21029, spz21029, faz21029, qsoz21029, qspz21029, qfaz21029, rsoz21029, rspz21029, rfaz21029, stz21029, ptz21029, hkf⟩⟩ := hz21029
      have pf0 := (yz21029.1 _ 4 (Or.inr (by decide)) (Or.inr (by decide)) (Or.inr (by decide)) (Or.inr (by decide)) (Or.inr (by decide)) (Or.inr (by decide)) (Or.inr (by decide)) (Or.inr (by decide))).trans pf0
      have pf1 := (yz21029.1 _ 28 (Or.inr (by decide)) (Or.inr (by decide)) (Or.inr (by decide)) (Or.inr (by decide)) (Or.inr (by decide)) (Or.inr (by decide)) (Or.inr (by decide)) (Or.inr (by decide))).trans pf1
      have pf2 := (yz21029.1 _ 29 (Or.inr (by decide)) (Or.inr (by decide)) (Or.inr (by decide)) (Or.inr (by decide)) (Or.inr (by decide)) (Or.inr (by decide)) (Or.inr (by decide)) (Or.inr (by decide))).trans pf2
      have pf6 := (yz21029.1 _ 12 (Or.inr (by decide)) (Or.inr (by decide)) (Or.inr (by decide)) (Or.inr (by decide)) (Or.inl (by rw [gx0]; decide)) (Or.inr (by decide)) (Or.inr (by decide)) (Or.inr (by decide))).trans pf6
      have pf7 := (yz21029.1 _ 7 (Or.inr (by decide)) (Or.inr (by decide)) (Or.inr (by decide)) (Or.inr (by decide)) (Or.inr (by decide)) (Or.inr (by decide)) (Or.inr (by decide)) (Or.inr (by decide))).trans pf7
      have pf8 := (yz21029.1 _ 8 (Or.inl (by rw [gx0]; decide)) (Or.inr (by decide)) (Or.inr (by decide)) (Or.inr (by decide)) (Or.inr (by decide)) (Or.inr (by decide)) (Or.inr (by decide)) (Or.inr (by decide))).trans pf8
      have pf9 := (yz21029.1 _ 9 (Or.inr (by decide)) (Or.inl (by rw [gx0]; decide)) (Or.inr (by decide)) (Or.inr (by decide)) (Or.inr (by decide)) (Or.inr (by decide)) (Or.inr (by decide)) (Or.inr (by decide))).trans pf9
      have pf10 := (yz21029.1 _ 10 (Or.inr (by decide)) (Or.inr (by decide)) (Or.inl (by rw [gx0]; decide)) (Or.inr (by decide)) (Or.inr (by decide)) (Or.inr (by decide)) (Or.inr (by decide)) (Or.inr (by decide))).trans pf10
      have pf11 := (yz21029.1 _ 0 (Or.inr (by decide)) (Or.inr (by decide)) (Or.inr (by decide)) (Or.inr (by decide)) (Or.inr (by decide)) (Or.inr (by decide)) (Or.inr (by decide)) (Or.inr (by decide))).trans pf11
      have hv21022 := (yz21029.1 _ 15 (Or.inr (by decide)) (Or.inr (by decide)) (Or.inr (by decide)) (Or.inr (by decide)) (Or.inr (by decide)) (Or.inr (by decide)) (Or.inr (by decide)) (Or.inl (by rw [gx0]; decide))).trans hv21022
      have vz21024 := (yz21029.2 _ _ ).trans vz21024
      have hfr : (∀ b j : Nat, (tag b ≠ 44 ∨ j ≠ 8) → (tag b ≠ 44 ∨ j ≠ 12) → (tag b ≠ 46 ∨ j ≠ 8) → (tag b ≠ 46 ∨ j ≠ 9) → (tag b ≠ 46 ∨ j ≠ 10) → (tag b ≠ 46 ∨ j ≠ 11) → (tag b ≠ 46 ∨ j ≠ 12) → (tag b ≠ 46 ∨ j ≠ 13) → (tag b ≠ 46 ∨ j ≠ 14) → (tag b ≠ 46 ∨ j ≠ 15) → fld F b j = fld Fo b j) ∧ (∀ b j : Nat, tag b ≠ 30 → tag b ≠ 31 → tag b ≠ 34 → tag b ≠ 35 → tag b ≠ 36 → tag b ≠ 37 → elm F b j = elm Fo b j) := ⟨fun b j n44_8 n44_12 n46_8 n46_9 n46_10 n46_11 n46_12 n46_13 n46_14 n46_15 => (yz21029.1 b j n46_8 n46_9 n46_10 n46_11 n46_12 n46_13 n46_14 n46_15).trans (hfr.1 b j n44_8 n44_12 n46_8 n46_9 n46_10 n46_11 n46_12 n46_13 n46_14 n46_15), fun b j a30 a31 a34 a35 a36 a37 => (yz21029.2 b j ).trans (hfr.2 b j a30 a31 a34 a35 a36 a37)⟩
      have hrel := msr_of (fun j => yz21029.2 _ j ) (fun j => yz21029.2 _ j ) hrel
      have hstk := STK.tr hstk stz21029
      have hspt := SPT.tr hspt ptz21029
      have k5z21029 : soz21029.toInt = 5 := stz21029 (by omega)
      refine lv_aload_n hx hb dX13_readHouse_101 rfl (lv_at hl 2 rfl) ?_
      refine lv_iconst (v := 0) hx hb dX13_readHouse_102 (by decide) ?_
      refine t_cVi (n := 1) (C := RX13) (T := TX13) (N := 37) (As := [.int 0]) (rest := []) X hT (km36_X13_readKnown l G tag L F hT.2.2.2 p0 0 x0 x1 x2 soz21029 spz21029 faz21029 m0 g0 (by decide) mx0 gx0 pf0 mx1 gx1 pf1 mx2 gx2 pf2 (by omega) qsoz21029 (by omega) qspz21029 (by omega) qfaz21029 hrel hkf) m0 g0 rfl rfl qw_632 qw_633 qw_634 qw_5 qw_635 ⟨rfl, by decide +kernel, by decide +kernel, by decide +kernel⟩ ⟨Nat.le_of_ble_eq_true rfl, Nat.le_of_ble_eq_true rfl⟩ hl rfl rfl (Nat.le_of_ble_eq_true rfl) dX13_readHouse_103 ⟨Nat.le_of_ble_eq_true rfl, Nat.le_of_ble_eq_true rfl⟩ (fun z21030 F H locs hT hz21030 => ?_)
      obtain ⟨hz21030, yz21030, hrel, ⟨soz21030, spz21030, faz21030, qsoz21030, qspz21030, qfaz21030, rsoz21030, rspz21030, rfaz21030, stz21030, ptz21030, hkf⟩⟩ := hz21030
      have pf0 := (yz21030.1 _ 4 (Or.inr (by decide)) (Or.inr (by decide)) (Or.inr (by decide)) (Or.inr (by decide)) (Or.inr (by decide)) (Or.inr (by decide)) (Or.inr (by decide)) (Or.inr (by decide))).trans pf0
      have pf1 := (yz21030.1 _ 28 (Or.inr (by decide)) (Or.inr (by decide)) (Or.inr (by decide)) (Or.inr (by decide)) (Or.inr (by decide)) (Or.inr (by decide)) (Or.inr (by decide)) (Or.inr (by decide))).trans pf1
      have pf2 := (yz21030.1 _ 29 (Or.inr (by decide)) (Or.inr (by decide)) (Or.inr (by decide)) (Or.inr (by decide)) (Or.inr (by decide)) (Or.inr (by decide)) (Or.inr (by decide)) (Or.inr (by decide))).trans pf2
      have pf6 := (yz21030.1 _ 12 (Or.inr (by decide)) (Or.inr (by decide)) (Or.inr (by decide)) (Or.inr (by decide)) (Or.inl (by rw [gx0]; decide)) (Or.inr (by decide)) (Or.inr (by decide)) (Or.inr (by decide))).trans pf6
      have pf7 := (yz21030.1 _ 7 (Or.inr (by decide)) (Or.inr (by decide)) (Or.inr (by decide)) (Or.inr (by decide)) (Or.inr (by decide)) (Or.inr (by decide)) (Or.inr (by decide)) (Or.inr (by decide))).trans pf7
      have pf8 := (yz21030.1 _ 8 (Or.inl (by rw [gx0]; decide)) (Or.inr (by decide)) (Or.inr (by decide)) (Or.inr (by decide)) (Or.inr (by decide)) (Or.inr (by decide)) (Or.inr (by decide)) (Or.inr (by decide))).trans pf8
      have pf9 := (yz21030.1 _ 9 (Or.inr (by decide)) (Or.inl (by rw [gx0]; decide)) (Or.inr (by decide)) (Or.inr (by decide)) (Or.inr (by decide)) (Or.inr (by decide)) (Or.inr (by decide)) (Or.inr (by decide))).trans pf9
      have pf10 := (yz21030.1 _ 10 (Or.inr (by decide)) (Or.inr (by decide)) (Or.inl (by rw [gx0]; decide)) (Or.inr (by decide)) (Or.inr (by decide)) (Or.inr (by decide)) (Or.inr (by decide)) (Or.inr (by decide))).trans pf10
      have pf11 := (yz21030.1 _ 0 (Or.inr (by decide)) (Or.inr (by decide)) (Or.inr (by decide)) (Or.inr (by decide)) (Or.inr (by decide)) (Or.inr (by decide)) (Or.inr (by decide)) (Or.inr (by decide))).trans pf11
      have hv21022 := (yz21030.1 _ 15 (Or.inr (by decide)) (Or.inr (by decide)) (Or.inr (by decide)) (Or.inr (by decide)) (Or.inr (by decide)) (Or.inr (by decide)) (Or.inr (by decide)) (Or.inl (by rw [gx0]; decide))).trans hv21022
      have vz21024 := (yz21030.2 _ _ ).trans vz21024
      have hfr : (∀ b j : Nat, (tag b ≠ 44 ∨ j ≠ 8) → (tag b ≠ 44 ∨ j ≠ 12) → (tag b ≠ 46 ∨ j ≠ 8) → (tag b ≠ 46 ∨ j ≠ 9) → (tag b ≠ 46 ∨ j ≠ 10) → (tag b ≠ 46 ∨ j ≠ 11) → (tag b ≠ 46 ∨ j ≠ 12) → (tag b ≠ 46 ∨ j ≠ 13) → (tag b ≠ 46 ∨ j ≠ 14) → (tag b ≠ 46 ∨ j ≠ 15) → fld F b j = fld Fo b j) ∧ (∀ b j : Nat, tag b ≠ 30 → tag b ≠ 31 → tag b ≠ 34 → tag b ≠ 35 → tag b ≠ 36 → tag b ≠ 37 → elm F b j = elm Fo b j) := ⟨fun b j n44_8 n44_12 n46_8 n46_9 n46_10 n46_11 n46_12 n46_13 n46_14 n46_15 => (yz21030.1 b j n46_8 n46_9 n46_10 n46_11 n46_12 n46_13 n46_14 n46_15).trans (hfr.1 b j n44_8 n44_12 n46_8 n46_9 n46_10 n46_11 n46_12 n46_13 n46_14 n46_15), fun b j a30 a31 a34 a35 a36 a37 => (yz21030.2 b j ).trans (hfr.2 b j a30 a31 a34 a35 a36 a37)⟩
      have hstk := STK.tr hstk stz21030
      have hspt := SPT.tr hspt ptz21030
      have k5z21030 : soz21030.toInt = 5 := stz21030 (by omega)
      refine lv_istore (lv' := [(4, .int z21030), (3, .int z21005), (1, .long z21003), (0, .ref p0)]) hx hb dX13_readHouse_106 hl (by decide) rfl (fun ls hl => ?_)
      refine lv_aload_n hx hb dX13_readHouse_108 rfl (lv_at hl 3 rfl) ?_
      refine m_ldcKw X 70 rfl dX13_readHouse_109 ?_
      refine lv_iconst (v := 0) hx hb dX13_readHouse_112 (by decide) ?_
      refine lv_bipush (v := 99) hx hb dX13_readHouse_113 (by decide) ?_
      refine t_cVi (n := 3) (C := RX13) (T := TX13) (N := 37) (As := [.ref (G.2 (100 + 70)), .int 0, .int 99]) (rest := []) X hT (km43_X13_readPart l G tag L F hT.2.2.2 p0 70 0 99 x0 x1 x2 soz21030 spz21030 faz21030 m0 g0 (by decide) (by decide) (by decide) mx0 gx0 pf0 mx1 gx1 pf1 mx2 gx2 pf2 (by omega) qsoz21030 (by omega) qspz21030 (by omega) qfaz21030 hkf) m0 g0 rfl rfl qw_552 qw_553 qw_554 qw_5 qw_555 ⟨rfl, by decide +kernel, by decide +kernel, by decide +kernel⟩ ⟨Nat.le_of_ble_eq_true rfl, Nat.le_of_ble_eq_true rfl⟩ hl rfl rfl (Nat.le_of_ble_eq_true rfl) dX13_readHouse_115 ⟨Nat.le_of_ble_eq_true rfl, Nat.le_of_ble_eq_true rfl⟩ (fun z21031 F H locs hT hz21031 => ?_)
      obtain ⟨hz21031, yz21031, ⟨soz21031, spz21031, faz21031, qsoz21031, qspz21031, qfaz21031, rsoz21031, rspz21031, rfaz21031, stz21031, ptz21031, hkf⟩⟩ := hz21031
      have pf0 := (yz21031.1 _ 4 (Or.inr (by decide)) (Or.inr (by decide)) (Or.inr (by decide)) (Or.inr (by decide)) (Or.inr (by decide)) (Or.inr (by decide)) (Or.inr (by decide)) (Or.inr (by decide))).trans pf0
      have pf1 := (yz21031.1 _ 28 (Or.inr (by decide)) (Or.inr (by decide)) (Or.inr (by decide)) (Or.inr (by decide)) (Or.inr (by decide)) (Or.inr (by decide)) (Or.inr (by decide)) (Or.inr (by decide))).trans pf1
      have pf2 := (yz21031.1 _ 29 (Or.inr (by decide)) (Or.inr (by decide)) (Or.inr (by decide)) (Or.inr (by decide)) (Or.inr (by decide)) (Or.inr (by decide)) (Or.inr (by decide)) (Or.inr (by decide))).trans pf2
      have pf6 := (yz21031.1 _ 12 (Or.inr (by decide)) (Or.inr (by decide)) (Or.inr (by decide)) (Or.inr (by decide)) (Or.inl (by rw [gx0]; decide)) (Or.inr (by decide)) (Or.inr (by decide)) (Or.inr (by decide))).trans pf6
      have pf7 := (yz21031.1 _ 7 (Or.inr (by decide)) (Or.inr (by decide)) (Or.inr (by decide)) (Or.inr (by decide)) (Or.inr (by decide)) (Or.inr (by decide)) (Or.inr (by decide)) (Or.inr (by decide))).trans pf7
      have pf8 := (yz21031.1 _ 8 (Or.inl (by rw [gx0]; decide)) (Or.inr (by decide)) (Or.inr (by decide)) (Or.inr (by decide)) (Or.inr (by decide)) (Or.inr (by decide)) (Or.inr (by decide)) (Or.inr (by decide))).trans pf8
      have pf9 := (yz21031.1 _ 9 (Or.inr (by decide)) (Or.inl (by rw [gx0]; decide)) (Or.inr (by decide)) (Or.inr (by decide)) (Or.inr (by decide)) (Or.inr (by decide)) (Or.inr (by decide)) (Or.inr (by decide))).trans pf9
      have pf10 := (yz21031.1 _ 10 (Or.inr (by decide)) (Or.inr (by decide)) (Or.inl (by rw [gx0]; decide)) (Or.inr (by decide)) (Or.inr (by decide)) (Or.inr (by decide)) (Or.inr (by decide)) (Or.inr (by decide))).trans pf10
      have pf11 := (yz21031.1 _ 0 (Or.inr (by decide)) (Or.inr (by decide)) (Or.inr (by decide)) (Or.inr (by decide)) (Or.inr (by decide)) (Or.inr (by decide)) (Or.inr (by decide)) (Or.inr (by decide))).trans pf11
      have hv21022 := (yz21031.1 _ 15 (Or.inr (by decide)) (Or.inr (by decide)) (Or.inr (by decide)) (Or.inr (by decide)) (Or.inr (by decide)) (Or.inr (by decide)) (Or.inr (by decide)) (Or.inl (by rw [gx0]; decide))).trans hv21022
      have vz21024 := (yz21031.2 _ _ ).trans vz21024
      have hfr : (∀ b j : Nat, (tag b ≠ 44 ∨ j ≠ 8) → (tag b ≠ 44 ∨ j ≠ 12) → (tag b ≠ 46 ∨ j ≠ 8) → (tag b ≠ 46 ∨ j ≠ 9) → (tag b ≠ 46 ∨ j ≠ 10) → (tag b ≠ 46 ∨ j ≠ 11) → (tag b ≠ 46 ∨ j ≠ 12) → (tag b ≠ 46 ∨ j ≠ 13) → (tag b ≠ 46 ∨ j ≠ 14) → (tag b ≠ 46 ∨ j ≠ 15) → fld F b j = fld Fo b j) ∧ (∀ b j : Nat, tag b ≠ 30 → tag b ≠ 31 → tag b ≠ 34 → tag b ≠ 35 → tag b ≠ 36 → tag b ≠ 37 → elm F b j = elm Fo b j) := ⟨fun b j n44_8 n44_12 n46_8 n46_9 n46_10 n46_11 n46_12 n46_13 n46_14 n46_15 => (yz21031.1 b j n46_8 n46_9 n46_10 n46_11 n46_12 n46_13 n46_14 n46_15).trans (hfr.1 b j n44_8 n44_12 n46_8 n46_9 n46_10 n46_11 n46_12 n46_13 n46_14 n46_15), fun b j a30 a31 a34 a35 a36 a37 => (yz21031.2 b j ).trans (hfr.2 b j a30 a31 a34 a35 a36 a37)⟩
      have hrel := msr_of (fun j => yz21031.2 _ j ) (fun j => yz21031.2 _ j ) hrel
      have hstk := STK.tr hstk stz21031
      have hspt := SPT.tr hspt ptz21031
      have k5z21031 : soz21031.toInt = 5 := stz21031 (by omega)
      refine lv_istore (lv' := [(5, .int z21031), (4, .int z21030), (3, .int z21005), (1, .long z21003), (0, .ref p0)]) hx hb dX13_readHouse_118 hl (by decide) rfl (fun ls hl => ?_)
      refine lv_aload_n hx hb dX13_readHouse_120 rfl (lv_at hl 4 rfl) ?_
      refine m_ldcKw X 71 rfl dX13_readHouse_121 ?_
      refine lv_iconst (v := 0) hx hb dX13_readHouse_124 (by decide) ?_
      refine lv_sipush (v := 999) hx hb dX13_readHouse_125 (by decide) ?_
      refine t_cVi (n := 3) (C := RX13) (T := TX13) (N := 37) (As := [.ref (G.2 (100 + 71)), .int 0, .int 999]) (rest := []) X hT (km56_X13_readPart l G tag L F hT.2.2.2 p0 71 0 999 x0 x1 x2 soz21031 spz21031 faz21031 m0 g0 (by decide) (by decide) (by decide) mx0 gx0 pf0 mx1 gx1 pf1 mx2 gx2 pf2 (by omega) qsoz21031 (by omega) qspz21031 (by omega) qfaz21031 hkf) m0 g0 rfl rfl qw_552 qw_553 qw_554 qw_5 qw_555 ⟨rfl, by decide +kernel, by decide +kernel, by decide +kernel⟩ ⟨Nat.le_of_ble_eq_true rfl, Nat.le_of_ble_eq_true rfl⟩ hl rfl rfl (Nat.le_of_ble_eq_true rfl) dX13_readHouse_128 ⟨Nat.le_of_ble_eq_true rfl, Nat.le_of_ble_eq_true rfl⟩ (fun z21032 F H locs hT hz21032 => ?_)
      obtain ⟨hz21032, yz21032, ⟨soz21032, spz21032, faz21032, qsoz21032, qspz21032, qfaz21032, rsoz21032, rspz21032, rfaz21032, stz21032, ptz21032, hkf⟩⟩ := hz21032
      have pf0 := (yz21032.1 _ 4 (Or.inr (by decide)) (Or.inr (by decide)) (Or.inr (by decide)) (Or.inr (by decide)) (Or.inr (by decide)) (Or.inr (by decide)) (Or.inr (by decide)) (Or.inr (by decide))).trans pf0
      have pf1 := (yz21032.1 _ 28 (Or.inr (by decide)) (Or.inr (by decide)) (Or.inr (by decide)) (Or.inr (by decide)) (Or.inr (by decide)) (Or.inr (by decide)) (Or.inr (by decide)) (Or.inr (by decide))).trans pf1
      have pf2 := (yz21032.1 _ 29 (Or.inr (by decide)) (Or.inr (by decide)) (Or.inr (by decide)) (Or.inr (by decide)) (Or.inr (by decide)) (Or.inr (by decide)) (Or.inr (by decide)) (Or.inr (by decide))).trans pf2
      have pf6 := (yz21032.1 _ 12 (Or.inr (by decide)) (Or.inr (by decide)) (Or.inr (by decide)) (Or.inr (by decide)) (Or.inl (by rw [gx0]; decide)) (Or.inr (by decide)) (Or.inr (by decide)) (Or.inr (by decide))).trans pf6
      have pf7 := (yz21032.1 _ 7 (Or.inr (by decide)) (Or.inr (by decide)) (Or.inr (by decide)) (Or.inr (by decide)) (Or.inr (by decide)) (Or.inr (by decide)) (Or.inr (by decide)) (Or.inr (by decide))).trans pf7
      have pf8 := (yz21032.1 _ 8 (Or.inl (by rw [gx0]; decide)) (Or.inr (by decide)) (Or.inr (by decide)) (Or.inr (by decide)) (Or.inr (by decide)) (Or.inr (by decide)) (Or.inr (by decide)) (Or.inr (by decide))).trans pf8
      have pf9 := (yz21032.1 _ 9 (Or.inr (by decide)) (Or.inl (by rw [gx0]; decide)) (Or.inr (by decide)) (Or.inr (by decide)) (Or.inr (by decide)) (Or.inr (by decide)) (Or.inr (by decide)) (Or.inr (by decide))).trans pf9
      have pf10 := (yz21032.1 _ 10 (Or.inr (by decide)) (Or.inr (by decide)) (Or.inl (by rw [gx0]; decide)) (Or.inr (by decide)) (Or.inr (by decide)) (Or.inr (by decide)) (Or.inr (by decide)) (Or.inr (by decide))).trans pf10
      have pf11 := (yz21032.1 _ 0 (Or.inr (by decide)) (Or.inr (by decide)) (Or.inr (by decide)) (Or.inr (by decide)) (Or.inr (by decide)) (Or.inr (by decide)) (Or.inr (by decide)) (Or.inr (by decide))).trans pf11
      have hv21022 := (yz21032.1 _ 15 (Or.inr (by decide)) (Or.inr (by decide)) (Or.inr (by decide)) (Or.inr (by decide)) (Or.inr (by decide)) (Or.inr (by decide)) (Or.inr (by decide)) (Or.inl (by rw [gx0]; decide))).trans hv21022
      have vz21024 := (yz21032.2 _ _ ).trans vz21024
      have hfr : (∀ b j : Nat, (tag b ≠ 44 ∨ j ≠ 8) → (tag b ≠ 44 ∨ j ≠ 12) → (tag b ≠ 46 ∨ j ≠ 8) → (tag b ≠ 46 ∨ j ≠ 9) → (tag b ≠ 46 ∨ j ≠ 10) → (tag b ≠ 46 ∨ j ≠ 11) → (tag b ≠ 46 ∨ j ≠ 12) → (tag b ≠ 46 ∨ j ≠ 13) → (tag b ≠ 46 ∨ j ≠ 14) → (tag b ≠ 46 ∨ j ≠ 15) → fld F b j = fld Fo b j) ∧ (∀ b j : Nat, tag b ≠ 30 → tag b ≠ 31 → tag b ≠ 34 → tag b ≠ 35 → tag b ≠ 36 → tag b ≠ 37 → elm F b j = elm Fo b j) := ⟨fun b j n44_8 n44_12 n46_8 n46_9 n46_10 n46_11 n46_12 n46_13 n46_14 n46_15 => (yz21032.1 b j n46_8 n46_9 n46_10 n46_11 n46_12 n46_13 n46_14 n46_15).trans (hfr.1 b j n44_8 n44_12 n46_8 n46_9 n46_10 n46_11 n46_12 n46_13 n46_14 n46_15), fun b j a30 a31 a34 a35 a36 a37 => (yz21032.2 b j ).trans (hfr.2 b j a30 a31 a34 a35 a36 a37)⟩
      have hrel := msr_of (fun j => yz21032.2 _ j ) (fun j => yz21032.2 _ j ) hrel
      have hstk := STK.tr hstk stz21032
      have hspt := SPT.tr hspt ptz21032
      have k5z21032 : soz21032.toInt = 5 := stz21032 (by omega)
      refine lv_istore (lv' := [(6, .int z21032), (5, .int z21031), (4, .int z21030), (3, .int z21005), (1, .long z21003), (0, .ref p0)]) hx hb dX13_readHouse_131 hl (by decide) rfl (fun ls hl => ?_)
      refine lv_aload_n hx hb dX13_readHouse_133 rfl (lv_at hl 5 rfl) ?_
      refine t_get (C := RX13) (T := TX13) (N := 37) X hT m0 g0 rfl rfl 9 (by decide) qw_478 inlX13 rfl dX13_readHouse_134 (fun v21033 hv21033 ov21033 => ?_)
      obtain rfl : v21033 = .int soz21032 := hv21033.symm.trans qsoz21032
      refine lv_iconst (v := 5) hx hb dX13_readHouse_137 (by decide) ?_
      refine lv_icmp_ne (tgt := 142) hx hb dX13_readHouse_138 (by decide) (fun c21034 => ?_) (fun c21034 => ?_)
      · have w21035 := cv_ne (rfl : soz21032.toInt = soz21032.toInt) (by decide : (5 : Int32).toInt = 5) c21034
        exfalso
        omega
      · have w21036 := cv_eq (rfl : soz21032.toInt = soz21032.toInt) (by decide : (5 : Int32).toInt = 5) c21034
        exact t_vret hQ X hT ⟨hfr, hrel, ⟨soz21032, spz21032, faz21032, qsoz21032, qspz21032, qfaz21032, (by omega), (by omega), (by omega), hstk, hspt, hkf⟩, ⟨x6, x7, x8, x9, x10, x11, pf6, pf7, pf8, pf9, pf10, pf11, (by omega), (by omega), (by omega), (by omega), (by omega), (by omega), hpl⟩⟩ (Nat.le_of_ble_eq_true rfl) (Nat.le_of_ble_eq_true rfl) dX13_readHouse_141
    · have w21037 := cv_eq (rfl : z21024.toInt = z21024.toInt) (by decide : (0 : Int32).toInt = 0) c21025
      refine lv_aload_n hx hb dX13_readHouse_49 rfl (lv_at hl 2 rfl) ?_
      refine t_get (C := RX13) (T := TX13) (N := 37) X hT m0 g0 rfl rfl 4 (by decide) qw_477 inlX13 rfl dX13_readHouse_50 (fun v21038 hv21038 ov21038 => ?_)
      obtain rfl : v21038 = .ref x0 := hv21038.symm.trans pf0
      refine lv_aload_n hx hb dX13_readHouse_53 rfl (lv_at hl 2 rfl) ?_
      refine t_get (C := RX13) (T := TX13) (N := 37) X hT m0 g0 rfl rfl 4 (by decide) qw_477 inlX13 rfl dX13_readHouse_54 (fun v21039 hv21039 ov21039 => ?_)
      obtain rfl : v21039 = .ref x0 := hv21039.symm.trans pf0
      refine t_getN (C := RX12) (T := TX12) (N := 31) X hT mx0 gx0 rfl rfl 30 (by decide) (List.mem_of_getElem? (i := 34) rfl) inlX12 rfl dX13_readHouse_57 (fun v21040 hv21040 ov21040 => ?_)
      obtain ⟨b21041, rfl, mb21041, gb21041⟩ := okV_r ov21040
      have gb21041 : tag b21041 = 37 := tg_of gb21041
      refine lv_iload_n hx hb dX13_readHouse_60 rfl (lv_at hl 0 rfl) ?_
      refine lv_aload_n hx hb dX13_readHouse_61 rfl (lv_at hl 2 rfl) ?_
      refine t_get (C := RX13) (T := TX13) (N := 37) X hT m0 g0 rfl rfl 4 (by decide) qw_477 inlX13 rfl dX13_readHouse_62 (fun v21042 hv21042 ov21042 => ?_)
      obtain rfl : v21042 = .ref x0 := hv21042.symm.trans pf0
      refine t_getN (C := RX12) (T := TX12) (N := 31) X hT mx0 gx0 rfl rfl 0 (by decide) (List.mem_of_getElem? (i := 4) rfl) inlX12 rfl dX13_readHouse_65 (fun v21043 hv21043 ov21043 => ?_)
      obtain rfl : v21043 = .int x11 := hv21043.symm.trans pf11
      refine lv_irem hx hb dX13_readHouse_68 (ne0_of (by omega)) ?_
      refine lv_topi (fun z21044 ez21044 => ?_)
      have hz21044 := ar_remv ez21044 (by omega) (by omega)
      have rz21044 : 0 ≤ z21044.toInt ∧ z21044.toInt ≤ 11 := by omega
      refine lv_iload_n hx hb dX13_readHouse_69 rfl (lv_at hl 0 rfl) ?_
      refine lv_aload_n hx hb dX13_readHouse_70 rfl (lv_at hl 2 rfl) ?_
      refine t_get (C := RX13) (T := TX13) (N := 37) X hT m0 g0 rfl rfl 4 (by decide) qw_477 inlX13 rfl dX13_readHouse_71 (fun v21045 hv21045 ov21045 => ?_)
      obtain rfl : v21045 = .ref x0 := hv21045.symm.trans pf0
      refine t_getN (C := RX12) (T := TX12) (N := 31) X hT mx0 gx0 rfl rfl 0 (by decide) (List.mem_of_getElem? (i := 4) rfl) inlX12 rfl dX13_readHouse_74 (fun v21046 hv21046 ov21046 => ?_)
      obtain rfl : v21046 = .int x11 := hv21046.symm.trans pf11
      refine lv_idiv hx hb dX13_readHouse_77 (ne0_of (by omega)) ?_
      refine lv_topi (fun z21047 ez21047 => ?_)
      have rz21047 : 0 ≤ z21047.toInt ∧ z21047.toInt ≤ 143 := ar_divv ez21047 (A := 143) (by omega) (by omega)
      refine t_cSi (n := 4) (As := [.ref x0, .ref b21041, .int z21044, .int z21047]) (rest := []) X hT (km57_X13_ownersOf l G tag L F hT.2.2.2 x0 b21041 z21044 z21047 x11 mx0 gx0 mb21041 gb21041 (by omega) pf11) qw_616 qw_617 qw_5 qw_618 ⟨by decide +kernel, by decide +kernel, by decide +kernel⟩ ⟨Nat.le_of_ble_eq_true rfl, Nat.le_of_ble_eq_true rfl⟩ hl rfl rfl (Nat.le_of_ble_eq_true rfl) dX13_readHouse_78 ⟨Nat.le_of_ble_eq_true rfl, Nat.le_of_ble_eq_true rfl⟩ (fun z21048 F9 H locs hT hz21048 => ?_)
      obtain ⟨fz21048, hz21048⟩ := hz21048
      rw [fz21048] at hT
      refine lv_if_eq (tgt := 90) hx hb dX13_readHouse_81 (by decide) (fun c21049 => ?_) (fun c21049 => ?_)
      · have w21050 := cv_eq (rfl : z21048.toInt = z21048.toInt) (by decide : (0 : Int32).toInt = 0) c21049
        refine lv_aload_n hx hb dX13_readHouse_90 rfl (lv_at hl 2 rfl) ?_
        refine t_cVv (n := 0) (C := RX13) (T := TX13) (N := 37) (As := []) (rest := []) X hT (km14_X13_goesOn l G tag L F hT.2.2.2 p0 x0 x1 x2 soz21005 spz21005 faz21005 m0 g0 mx0 gx0 pf0 mx1 gx1 pf1 mx2 gx2 pf2 (by omega) qsoz21005 (by omega) qspz21005 (by omega) qfaz21005 hkf) m0 g0 rfl rfl qw_508 qw_509 qw_510 qw_5 qw_511 ⟨rfl, by decide +kernel, by decide +kernel, by decide +kernel⟩ ⟨Nat.le_of_ble_eq_true rfl, Nat.le_of_ble_eq_true rfl⟩ hl rfl rfl (Nat.le_of_ble_eq_true rfl) dX13_readHouse_91 ⟨Nat.le_of_ble_eq_true rfl, Nat.le_of_ble_eq_true rfl⟩ (fun F H locs hT hz21051 => ?_)
        obtain ⟨yz21051, ⟨soz21051, spz21051, faz21051, qsoz21051, qspz21051, qfaz21051, rsoz21051, rspz21051, rfaz21051, stz21051, ptz21051, hkf⟩⟩ := hz21051
        have pf0 := (yz21051.1 _ 4 (Or.inr (by decide)) (Or.inr (by decide)) (Or.inr (by decide)) (Or.inr (by decide)) (Or.inr (by decide)) (Or.inr (by decide))).trans pf0
        have pf1 := (yz21051.1 _ 28 (Or.inr (by decide)) (Or.inr (by decide)) (Or.inr (by decide)) (Or.inr (by decide)) (Or.inr (by decide)) (Or.inr (by decide))).trans pf1
        have pf2 := (yz21051.1 _ 29 (Or.inr (by decide)) (Or.inr (by decide)) (Or.inr (by decide)) (Or.inr (by decide)) (Or.inr (by decide)) (Or.inr (by decide))).trans pf2
        have pf6 := (yz21051.1 _ 12 (Or.inr (by decide)) (Or.inr (by decide)) (Or.inr (by decide)) (Or.inr (by decide)) (Or.inl (by rw [gx0]; decide)) (Or.inr (by decide))).trans pf6
        have pf7 := (yz21051.1 _ 7 (Or.inr (by decide)) (Or.inr (by decide)) (Or.inr (by decide)) (Or.inr (by decide)) (Or.inr (by decide)) (Or.inr (by decide))).trans pf7
        have pf8 := (yz21051.1 _ 8 (Or.inl (by rw [gx0]; decide)) (Or.inr (by decide)) (Or.inr (by decide)) (Or.inr (by decide)) (Or.inr (by decide)) (Or.inr (by decide))).trans pf8
        have pf9 := (yz21051.1 _ 9 (Or.inr (by decide)) (Or.inl (by rw [gx0]; decide)) (Or.inr (by decide)) (Or.inr (by decide)) (Or.inr (by decide)) (Or.inr (by decide))).trans pf9
        have pf10 := (yz21051.1 _ 10 (Or.inr (by decide)) (Or.inr (by decide)) (Or.inl (by rw [gx0]; decide)) (Or.inr (by decide)) (Or.inr (by decide)) (Or.inr (by decide))).trans pf10
        have pf11 := (yz21051.1 _ 0 (Or.inr (by decide)) (Or.inr (by decide)) (Or.inr (by decide)) (Or.inr (by decide)) (Or.inr (by decide)) (Or.inr (by decide))).trans pf11
        have qfaz21005 := (yz21051.1 _ 13 (Or.inr (by decide)) (Or.inr (by decide)) (Or.inr (by decide)) (Or.inr (by decide)) (Or.inr (by decide)) (Or.inr (by decide))).trans qfaz21005
        have hv21022 := (yz21051.1 _ 15 (Or.inr (by decide)) (Or.inr (by decide)) (Or.inr (by decide)) (Or.inr (by decide)) (Or.inr (by decide)) (Or.inl (by rw [gx0]; decide))).trans hv21022
        have vz21024 := (yz21051.2 _ _ ).trans vz21024
        have hv21040 := (yz21051.1 _ 30 (Or.inr (by decide)) (Or.inr (by decide)) (Or.inr (by decide)) (Or.inr (by decide)) (Or.inr (by decide)) (Or.inr (by decide))).trans hv21040
        have hfr : (∀ b j : Nat, (tag b ≠ 44 ∨ j ≠ 8) → (tag b ≠ 44 ∨ j ≠ 12) → (tag b ≠ 46 ∨ j ≠ 8) → (tag b ≠ 46 ∨ j ≠ 9) → (tag b ≠ 46 ∨ j ≠ 10) → (tag b ≠ 46 ∨ j ≠ 11) → (tag b ≠ 46 ∨ j ≠ 12) → (tag b ≠ 46 ∨ j ≠ 13) → (tag b ≠ 46 ∨ j ≠ 14) → (tag b ≠ 46 ∨ j ≠ 15) → fld F b j = fld Fo b j) ∧ (∀ b j : Nat, tag b ≠ 30 → tag b ≠ 31 → tag b ≠ 34 → tag b ≠ 35 → tag b ≠ 36 → tag b ≠ 37 → elm F b j = elm Fo b j) := ⟨fun b j n44_8 n44_12 n46_8 n46_9 n46_10 n46_11 n46_12 n46_13 n46_14 n46_15 => (yz21051.1 b j n46_8 n46_9 n46_10 n46_11 n46_12 n46_15).trans (hfr.1 b j n44_8 n44_12 n46_8 n46_9 n46_10 n46_11 n46_12 n46_13 n46_14 n46_15), fun b j a30 a31 a34 a35 a36 a37 => (yz21051.2 b j ).trans (hfr.2 b j a30 a31 a34 a35 a36 a37)⟩
        have hrel := msr_of (fun j => yz21051.2 _ j ) (fun j => yz21051.2 _ j ) hrel
        have hstk := STK.tr hstk stz21051
        have hspt := SPT.tr hspt ptz21051
        refine lv_aload_n hx hb dX13_readHouse_94 rfl (lv_at hl 2 rfl) ?_
        refine m_ldcKw X 69 rfl dX13_readHouse_95 ?_
        refine t_cVv (n := 1) (C := RX13) (T := TX13) (N := 37) (As := [.ref (G.2 (100 + 69))]) (rest := []) X hT (km40_X13_needs l G tag L F hT.2.2.2 p0 69 x0 x1 x2 soz21051 spz21051 faz21051 m0 g0 (by decide) mx0 gx0 pf0 mx1 gx1 pf1 mx2 gx2 pf2 (by omega) qsoz21051 (by omega) qspz21051 (by omega) qfaz21051 hkf) m0 g0 rfl rfl qw_556 qw_557 qw_558 qw_5 qw_559 ⟨rfl, by decide +kernel, by decide +kernel, by decide +kernel⟩ ⟨Nat.le_of_ble_eq_true rfl, Nat.le_of_ble_eq_true rfl⟩ hl rfl rfl (Nat.le_of_ble_eq_true rfl) dX13_readHouse_98 ⟨Nat.le_of_ble_eq_true rfl, Nat.le_of_ble_eq_true rfl⟩ (fun F H locs hT hz21052 => ?_)
        obtain ⟨yz21052, ⟨soz21052, spz21052, faz21052, qsoz21052, qspz21052, qfaz21052, rsoz21052, rspz21052, rfaz21052, stz21052, ptz21052, hkf⟩⟩ := hz21052
        have pf0 := (yz21052.1 _ 4 (Or.inr (by decide)) (Or.inr (by decide)) (Or.inr (by decide)) (Or.inr (by decide)) (Or.inr (by decide)) (Or.inr (by decide)) (Or.inr (by decide)) (Or.inr (by decide))).trans pf0
        have pf1 := (yz21052.1 _ 28 (Or.inr (by decide)) (Or.inr (by decide)) (Or.inr (by decide)) (Or.inr (by decide)) (Or.inr (by decide)) (Or.inr (by decide)) (Or.inr (by decide)) (Or.inr (by decide))).trans pf1
        have pf2 := (yz21052.1 _ 29 (Or.inr (by decide)) (Or.inr (by decide)) (Or.inr (by decide)) (Or.inr (by decide)) (Or.inr (by decide)) (Or.inr (by decide)) (Or.inr (by decide)) (Or.inr (by decide))).trans pf2
        have pf6 := (yz21052.1 _ 12 (Or.inr (by decide)) (Or.inr (by decide)) (Or.inr (by decide)) (Or.inr (by decide)) (Or.inl (by rw [gx0]; decide)) (Or.inr (by decide)) (Or.inr (by decide)) (Or.inr (by decide))).trans pf6
        have pf7 := (yz21052.1 _ 7 (Or.inr (by decide)) (Or.inr (by decide)) (Or.inr (by decide)) (Or.inr (by decide)) (Or.inr (by decide)) (Or.inr (by decide)) (Or.inr (by decide)) (Or.inr (by decide))).trans pf7
        have pf8 := (yz21052.1 _ 8 (Or.inl (by rw [gx0]; decide)) (Or.inr (by decide)) (Or.inr (by decide)) (Or.inr (by decide)) (Or.inr (by decide)) (Or.inr (by decide)) (Or.inr (by decide)) (Or.inr (by decide))).trans pf8
        have pf9 := (yz21052.1 _ 9 (Or.inr (by decide)) (Or.inl (by rw [gx0]; decide)) (Or.inr (by decide)) (Or.inr (by decide)) (Or.inr (by decide)) (Or.inr (by decide)) (Or.inr (by decide)) (Or.inr (by decide))).trans pf9
        have pf10 := (yz21052.1 _ 10 (Or.inr (by decide)) (Or.inr (by decide)) (Or.inl (by rw [gx0]; decide)) (Or.inr (by decide)) (Or.inr (by decide)) (Or.inr (by decide)) (Or.inr (by decide)) (Or.inr (by decide))).trans pf10
        have pf11 := (yz21052.1 _ 0 (Or.inr (by decide)) (Or.inr (by decide)) (Or.inr (by decide)) (Or.inr (by decide)) (Or.inr (by decide)) (Or.inr (by decide)) (Or.inr (by decide)) (Or.inr (by decide))).trans pf11
        have hv21022 := (yz21052.1 _ 15 (Or.inr (by decide)) (Or.inr (by decide)) (Or.inr (by decide)) (Or.inr (by decide)) (Or.inr (by decide)) (Or.inr (by decide)) (Or.inr (by decide)) (Or.inl (by rw [gx0]; decide))).trans hv21022
        have vz21024 := (yz21052.2 _ _ ).trans vz21024
        have hv21040 := (yz21052.1 _ 30 (Or.inr (by decide)) (Or.inr (by decide)) (Or.inr (by decide)) (Or.inr (by decide)) (Or.inr (by decide)) (Or.inr (by decide)) (Or.inr (by decide)) (Or.inr (by decide))).trans hv21040
        have hfr : (∀ b j : Nat, (tag b ≠ 44 ∨ j ≠ 8) → (tag b ≠ 44 ∨ j ≠ 12) → (tag b ≠ 46 ∨ j ≠ 8) → (tag b ≠ 46 ∨ j ≠ 9) → (tag b ≠ 46 ∨ j ≠ 10) → (tag b ≠ 46 ∨ j ≠ 11) → (tag b ≠ 46 ∨ j ≠ 12) → (tag b ≠ 46 ∨ j ≠ 13) → (tag b ≠ 46 ∨ j ≠ 14) → (tag b ≠ 46 ∨ j ≠ 15) → fld F b j = fld Fo b j) ∧ (∀ b j : Nat, tag b ≠ 30 → tag b ≠ 31 → tag b ≠ 34 → tag b ≠ 35 → tag b ≠ 36 → tag b ≠ 37 → elm F b j = elm Fo b j) := ⟨fun b j n44_8 n44_12 n46_8 n46_9 n46_10 n46_11 n46_12 n46_13 n46_14 n46_15 => (yz21052.1 b j n46_8 n46_9 n46_10 n46_11 n46_12 n46_13 n46_14 n46_15).trans (hfr.1 b j n44_8 n44_12 n46_8 n46_9 n46_10 n46_11 n46_12 n46_13 n46_14 n46_15), fun b j a30 a31 a34 a35 a36 a37 => (yz21052.2 b j ).trans (hfr.2 b j a30 a31 a34 a35 a36 a37)⟩
        have hrel := msr_of (fun j => yz21052.2 _ j ) (fun j => yz21052.2 _ j ) hrel
        have hstk := STK.tr hstk stz21052
        have hspt := SPT.tr hspt ptz21052
        refine lv_aload_n hx hb dX13_readHouse_101 rfl (lv_at hl 2 rfl) ?_
        refine lv_iconst (v := 0) hx hb dX13_readHouse_102 (by decide) ?_
        refine t_cVi (n := 1) (C := RX13) (T := TX13) (N := 37) (As := [.int 0]) (rest := []) X hT (km36_X13_readKnown l G tag L F hT.2.2.2 p0 0 x0 x1 x2 soz21052 spz21052 faz21052 m0 g0 (by decide) mx0 gx0 pf0 mx1 gx1 pf1 mx2 gx2 pf2 (by omega) qsoz21052 (by omega) qspz21052 (by omega) qfaz21052 hrel hkf) m0 g0 rfl rfl qw_632 qw_633 qw_634 qw_5 qw_635 ⟨rfl, by decide +kernel, by decide +kernel, by decide +kernel⟩ ⟨Nat.le_of_ble_eq_true rfl, Nat.le_of_ble_eq_true rfl⟩ hl rfl rfl (Nat.le_of_ble_eq_true rfl) dX13_readHouse_103 ⟨Nat.le_of_ble_eq_true rfl, Nat.le_of_ble_eq_true rfl⟩ (fun z21053 F H locs hT hz21053 => ?_)
        obtain ⟨hz21053, yz21053, hrel, ⟨soz21053, spz21053, faz21053, qsoz21053, qspz21053, qfaz21053, rsoz21053, rspz21053, rfaz21053, stz21053, ptz21053, hkf⟩⟩ := hz21053
        have pf0 := (yz21053.1 _ 4 (Or.inr (by decide)) (Or.inr (by decide)) (Or.inr (by decide)) (Or.inr (by decide)) (Or.inr (by decide)) (Or.inr (by decide)) (Or.inr (by decide)) (Or.inr (by decide))).trans pf0
        have pf1 := (yz21053.1 _ 28 (Or.inr (by decide)) (Or.inr (by decide)) (Or.inr (by decide)) (Or.inr (by decide)) (Or.inr (by decide)) (Or.inr (by decide)) (Or.inr (by decide)) (Or.inr (by decide))).trans pf1
        have pf2 := (yz21053.1 _ 29 (Or.inr (by decide)) (Or.inr (by decide)) (Or.inr (by decide)) (Or.inr (by decide)) (Or.inr (by decide)) (Or.inr (by decide)) (Or.inr (by decide)) (Or.inr (by decide))).trans pf2
        have pf6 := (yz21053.1 _ 12 (Or.inr (by decide)) (Or.inr (by decide)) (Or.inr (by decide)) (Or.inr (by decide)) (Or.inl (by rw [gx0]; decide)) (Or.inr (by decide)) (Or.inr (by decide)) (Or.inr (by decide))).trans pf6
        have pf7 := (yz21053.1 _ 7 (Or.inr (by decide)) (Or.inr (by decide)) (Or.inr (by decide)) (Or.inr (by decide)) (Or.inr (by decide)) (Or.inr (by decide)) (Or.inr (by decide)) (Or.inr (by decide))).trans pf7
        have pf8 := (yz21053.1 _ 8 (Or.inl (by rw [gx0]; decide)) (Or.inr (by decide)) (Or.inr (by decide)) (Or.inr (by decide)) (Or.inr (by decide)) (Or.inr (by decide)) (Or.inr (by decide)) (Or.inr (by decide))).trans pf8
        have pf9 := (yz21053.1 _ 9 (Or.inr (by decide)) (Or.inl (by rw [gx0]; decide)) (Or.inr (by decide)) (Or.inr (by decide)) (Or.inr (by decide)) (Or.inr (by decide)) (Or.inr (by decide)) (Or.inr (by decide))).trans pf9
        have pf10 := (yz21053.1 _ 10 (Or.inr (by decide)) (Or.inr (by decide)) (Or.inl (by rw [gx0]; decide)) (Or.inr (by decide)) (Or.inr (by decide)) (Or.inr (by decide)) (Or.inr (by decide)) (Or.inr (by decide))).trans pf10
        have pf11 := (yz21053.1 _ 0 (Or.inr (by decide)) (Or.inr (by decide)) (Or.inr (by decide)) (Or.inr (by decide)) (Or.inr (by decide)) (Or.inr (by decide)) (Or.inr (by decide)) (Or.inr (by decide))).trans pf11
        have hv21022 := (yz21053.1 _ 15 (Or.inr (by decide)) (Or.inr (by decide)) (Or.inr (by decide)) (Or.inr (by decide)) (Or.inr (by decide)) (Or.inr (by decide)) (Or.inr (by decide)) (Or.inl (by rw [gx0]; decide))).trans hv21022
        have vz21024 := (yz21053.2 _ _ ).trans vz21024
        have hv21040 := (yz21053.1 _ 30 (Or.inr (by decide)) (Or.inr (by decide)) (Or.inr (by decide)) (Or.inr (by decide)) (Or.inr (by decide)) (Or.inr (by decide)) (Or.inr (by decide)) (Or.inr (by decide))).trans hv21040
        have hfr : (∀ b j : Nat, (tag b ≠ 44 ∨ j ≠ 8) → (tag b ≠ 44 ∨ j ≠ 12) → (tag b ≠ 46 ∨ j ≠ 8) → (tag b ≠ 46 ∨ j ≠ 9) → (tag b ≠ 46 ∨ j ≠ 10) → (tag b ≠ 46 ∨ j ≠ 11) → (tag b ≠ 46 ∨ j ≠ 12) → (tag b ≠ 46 ∨ j ≠ 13) → (tag b ≠ 46 ∨ j ≠ 14) → (tag b ≠ 46 ∨ j ≠ 15) → fld F b j = fld Fo b j) ∧ (∀ b j : Nat, tag b ≠ 30 → tag b ≠ 31 → tag b ≠ 34 → tag b ≠ 35 → tag b ≠ 36 → tag b ≠ 37 → elm F b j = elm Fo b j) := ⟨fun b j n44_8 n44_12 n46_8 n46_9 n46_10 n46_11 n46_12 n46_13 n46_14 n46_15 => (yz21053.1 b j n46_8 n46_9 n46_10 n46_11 n46_12 n46_13 n46_14 n46_15).trans (hfr.1 b j n44_8 n44_12 n46_8 n46_9 n46_10 n46_11 n46_12 n46_13 n46_14 n46_15), fun b j a30 a31 a34 a35 a36 a37 => (yz21053.2 b j ).trans (hfr.2 b j a30 a31 a34 a35 a36 a37)⟩
        have hstk := STK.tr hstk stz21053
        have hspt := SPT.tr hspt ptz21053
        refine lv_istore (lv' := [(4, .int z21053), (3, .int z21005), (1, .long z21003), (0, .ref p0)]) hx hb dX13_readHouse_106 hl (by decide) rfl (fun ls hl => ?_)
        refine lv_aload_n hx hb dX13_readHouse_108 rfl (lv_at hl 3 rfl) ?_
        refine m_ldcKw X 70 rfl dX13_readHouse_109 ?_
        refine lv_iconst (v := 0) hx hb dX13_readHouse_112 (by decide) ?_
        refine lv_bipush (v := 99) hx hb dX13_readHouse_113 (by decide) ?_
        refine t_cVi (n := 3) (C := RX13) (T := TX13) (N := 37) (As := [.ref (G.2 (100 + 70)), .int 0, .int 99]) (rest := []) X hT (km43_X13_readPart l G tag L F hT.2.2.2 p0 70 0 99 x0 x1 x2 soz21053 spz21053 faz21053 m0 g0 (by decide) (by decide) (by decide) mx0 gx0 pf0 mx1 gx1 pf1 mx2 gx2 pf2 (by omega) qsoz21053 (by omega) qspz21053 (by omega) qfaz21053 hkf) m0 g0 rfl rfl qw_552 qw_553 qw_554 qw_5 qw_555 ⟨rfl, by decide +kernel, by decide +kernel, by decide +kernel⟩ ⟨Nat.le_of_ble_eq_true rfl, Nat.le_of_ble_eq_true rfl⟩ hl rfl rfl (Nat.le_of_ble_eq_true rfl) dX13_readHouse_115 ⟨Nat.le_of_ble_eq_true rfl, Nat.le_of_ble_eq_true rfl⟩ (fun z21054 F H locs hT hz21054 => ?_)
        obtain ⟨hz21054, yz21054, ⟨soz21054, spz21054, faz21054, qsoz21054, qspz21054, qfaz21054, rsoz21054, rspz21054, rfaz21054, stz21054, ptz21054, hkf⟩⟩ := hz21054
        have pf0 := (yz21054.1 _ 4 (Or.inr (by decide)) (Or.inr (by decide)) (Or.inr (by decide)) (Or.inr (by decide)) (Or.inr (by decide)) (Or.inr (by decide)) (Or.inr (by decide)) (Or.inr (by decide))).trans pf0
        have pf1 := (yz21054.1 _ 28 (Or.inr (by decide)) (Or.inr (by decide)) (Or.inr (by decide)) (Or.inr (by decide)) (Or.inr (by decide)) (Or.inr (by decide)) (Or.inr (by decide)) (Or.inr (by decide))).trans pf1
        have pf2 := (yz21054.1 _ 29 (Or.inr (by decide)) (Or.inr (by decide)) (Or.inr (by decide)) (Or.inr (by decide)) (Or.inr (by decide)) (Or.inr (by decide)) (Or.inr (by decide)) (Or.inr (by decide))).trans pf2
        have pf6 := (yz21054.1 _ 12 (Or.inr (by decide)) (Or.inr (by decide)) (Or.inr (by decide)) (Or.inr (by decide)) (Or.inl (by rw [gx0]; decide)) (Or.inr (by decide)) (Or.inr (by decide)) (Or.inr (by decide))).trans pf6
        have pf7 := (yz21054.1 _ 7 (Or.inr (by decide)) (Or.inr (by decide)) (Or.inr (by decide)) (Or.inr (by decide)) (Or.inr (by decide)) (Or.inr (by decide)) (Or.inr (by decide)) (Or.inr (by decide))).trans pf7
        have pf8 := (yz21054.1 _ 8 (Or.inl (by rw [gx0]; decide)) (Or.inr (by decide)) (Or.inr (by decide)) (Or.inr (by decide)) (Or.inr (by decide)) (Or.inr (by decide)) (Or.inr (by decide)) (Or.inr (by decide))).trans pf8
        have pf9 := (yz21054.1 _ 9 (Or.inr (by decide)) (Or.inl (by rw [gx0]; decide)) (Or.inr (by decide)) (Or.inr (by decide)) (Or.inr (by decide)) (Or.inr (by decide)) (Or.inr (by decide)) (Or.inr (by decide))).trans pf9
        have pf10 := (yz21054.1 _ 10 (Or.inr (by decide)) (Or.inr (by decide)) (Or.inl (by rw [gx0]; decide)) (Or.inr (by decide)) (Or.inr (by decide)) (Or.inr (by decide)) (Or.inr (by decide)) (Or.inr (by decide))).trans pf10
        have pf11 := (yz21054.1 _ 0 (Or.inr (by decide)) (Or.inr (by decide)) (Or.inr (by decide)) (Or.inr (by decide)) (Or.inr (by decide)) (Or.inr (by decide)) (Or.inr (by decide)) (Or.inr (by decide))).trans pf11
        have hv21022 := (yz21054.1 _ 15 (Or.inr (by decide)) (Or.inr (by decide)) (Or.inr (by decide)) (Or.inr (by decide)) (Or.inr (by decide)) (Or.inr (by decide)) (Or.inr (by decide)) (Or.inl (by rw [gx0]; decide))).trans hv21022
        have vz21024 := (yz21054.2 _ _ ).trans vz21024
        have hv21040 := (yz21054.1 _ 30 (Or.inr (by decide)) (Or.inr (by decide)) (Or.inr (by decide)) (Or.inr (by decide)) (Or.inr (by decide)) (Or.inr (by decide)) (Or.inr (by decide)) (Or.inr (by decide))).trans hv21040
        have hfr : (∀ b j : Nat, (tag b ≠ 44 ∨ j ≠ 8) → (tag b ≠ 44 ∨ j ≠ 12) → (tag b ≠ 46 ∨ j ≠ 8) → (tag b ≠ 46 ∨ j ≠ 9) → (tag b ≠ 46 ∨ j ≠ 10) → (tag b ≠ 46 ∨ j ≠ 11) → (tag b ≠ 46 ∨ j ≠ 12) → (tag b ≠ 46 ∨ j ≠ 13) → (tag b ≠ 46 ∨ j ≠ 14) → (tag b ≠ 46 ∨ j ≠ 15) → fld F b j = fld Fo b j) ∧ (∀ b j : Nat, tag b ≠ 30 → tag b ≠ 31 → tag b ≠ 34 → tag b ≠ 35 → tag b ≠ 36 → tag b ≠ 37 → elm F b j = elm Fo b j) := ⟨fun b j n44_8 n44_12 n46_8 n46_9 n46_10 n46_11 n46_12 n46_13 n46_14 n46_15 => (yz21054.1 b j n46_8 n46_9 n46_10 n46_11 n46_12 n46_13 n46_14 n46_15).trans (hfr.1 b j n44_8 n44_12 n46_8 n46_9 n46_10 n46_11 n46_12 n46_13 n46_14 n46_15), fun b j a30 a31 a34 a35 a36 a37 => (yz21054.2 b j ).trans (hfr.2 b j a30 a31 a34 a35 a36 a37)⟩
        have hrel := msr_of (fun j => yz21054.2 _ j ) (fun j => yz21054.2 _ j ) hrel
        have hstk := STK.tr hstk stz21054
        have hspt := SPT.tr hspt ptz21054
        refine lv_istore (lv' := [(5, .int z21054), (4, .int z21053), (3, .int z21005), (1, .long z21003), (0, .ref p0)]) hx hb dX13_readHouse_118 hl (by decide) rfl (fun ls hl => ?_)
        refine lv_aload_n hx hb dX13_readHouse_120 rfl (lv_at hl 4 rfl) ?_
        refine m_ldcKw X 71 rfl dX13_readHouse_121 ?_
        refine lv_iconst (v := 0) hx hb dX13_readHouse_124 (by decide) ?_
        refine lv_sipush (v := 999) hx hb dX13_readHouse_125 (by decide) ?_
        refine t_cVi (n := 3) (C := RX13) (T := TX13) (N := 37) (As := [.ref (G.2 (100 + 71)), .int 0, .int 999]) (rest := []) X hT (km56_X13_readPart l G tag L F hT.2.2.2 p0 71 0 999 x0 x1 x2 soz21054 spz21054 faz21054 m0 g0 (by decide) (by decide) (by decide) mx0 gx0 pf0 mx1 gx1 pf1 mx2 gx2 pf2 (by omega) qsoz21054 (by omega) qspz21054 (by omega) qfaz21054 hkf) m0 g0 rfl rfl qw_552 qw_553 qw_554 qw_5 qw_555 ⟨rfl, by decide +kernel, by decide +kernel, by decide +kernel⟩ ⟨Nat.le_of_ble_eq_true rfl, Nat.le_of_ble_eq_true rfl⟩ hl rfl rfl (Nat.le_of_ble_eq_true rfl) dX13_readHouse_128 ⟨Nat.le_of_ble_eq_true rfl, Nat.le_of_ble_eq_true rfl⟩ (fun z21055 F H locs hT hz21055 => ?_)
        obtain ⟨hz21055, yz21055, ⟨soz21055, spz21055, faz21055, qsoz21055, qspz21055, qfaz21055, rsoz21055, rspz21055, rfaz21055, stz21055, ptz21055, hkf⟩⟩ := hz21055
        have pf0 := (yz21055.1 _ 4 (Or.inr (by decide)) (Or.inr (by decide)) (Or.inr (by decide)) (Or.inr (by decide)) (Or.inr (by decide)) (Or.inr (by decide)) (Or.inr (by decide)) (Or.inr (by decide))).trans pf0
        have pf1 := (yz21055.1 _ 28 (Or.inr (by decide)) (Or.inr (by decide)) (Or.inr (by decide)) (Or.inr (by decide)) (Or.inr (by decide)) (Or.inr (by decide)) (Or.inr (by decide)) (Or.inr (by decide))).trans pf1
        have pf2 := (yz21055.1 _ 29 (Or.inr (by decide)) (Or.inr (by decide)) (Or.inr (by decide)) (Or.inr (by decide)) (Or.inr (by decide)) (Or.inr (by decide)) (Or.inr (by decide)) (Or.inr (by decide))).trans pf2
        have pf6 := (yz21055.1 _ 12 (Or.inr (by decide)) (Or.inr (by decide)) (Or.inr (by decide)) (Or.inr (by decide)) (Or.inl (by rw [gx0]; decide)) (Or.inr (by decide)) (Or.inr (by decide)) (Or.inr (by decide))).trans pf6
        have pf7 := (yz21055.1 _ 7 (Or.inr (by decide)) (Or.inr (by decide)) (Or.inr (by decide)) (Or.inr (by decide)) (Or.inr (by decide)) (Or.inr (by decide)) (Or.inr (by decide)) (Or.inr (by decide))).trans pf7
        have pf8 := (yz21055.1 _ 8 (Or.inl (by rw [gx0]; decide)) (Or.inr (by decide)) (Or.inr (by decide)) (Or.inr (by decide)) (Or.inr (by decide)) (Or.inr (by decide)) (Or.inr (by decide)) (Or.inr (by decide))).trans pf8
        have pf9 := (yz21055.1 _ 9 (Or.inr (by decide)) (Or.inl (by rw [gx0]; decide)) (Or.inr (by decide)) (Or.inr (by decide)) (Or.inr (by decide)) (Or.inr (by decide)) (Or.inr (by decide)) (Or.inr (by decide))).trans pf9
        have pf10 := (yz21055.1 _ 10 (Or.inr (by decide)) (Or.inr (by decide)) (Or.inl (by rw [gx0]; decide)) (Or.inr (by decide)) (Or.inr (by decide)) (Or.inr (by decide)) (Or.inr (by decide)) (Or.inr (by decide))).trans pf10
        have pf11 := (yz21055.1 _ 0 (Or.inr (by decide)) (Or.inr (by decide)) (Or.inr (by decide)) (Or.inr (by decide)) (Or.inr (by decide)) (Or.inr (by decide)) (Or.inr (by decide)) (Or.inr (by decide))).trans pf11
        have hv21022 := (yz21055.1 _ 15 (Or.inr (by decide)) (Or.inr (by decide)) (Or.inr (by decide)) (Or.inr (by decide)) (Or.inr (by decide)) (Or.inr (by decide)) (Or.inr (by decide)) (Or.inl (by rw [gx0]; decide))).trans hv21022
        have vz21024 := (yz21055.2 _ _ ).trans vz21024
        have hv21040 := (yz21055.1 _ 30 (Or.inr (by decide)) (Or.inr (by decide)) (Or.inr (by decide)) (Or.inr (by decide)) (Or.inr (by decide)) (Or.inr (by decide)) (Or.inr (by decide)) (Or.inr (by decide))).trans hv21040
        have hfr : (∀ b j : Nat, (tag b ≠ 44 ∨ j ≠ 8) → (tag b ≠ 44 ∨ j ≠ 12) → (tag b ≠ 46 ∨ j ≠ 8) → (tag b ≠ 46 ∨ j ≠ 9) → (tag b ≠ 46 ∨ j ≠ 10) → (tag b ≠ 46 ∨ j ≠ 11) → (tag b ≠ 46 ∨ j ≠ 12) → (tag b ≠ 46 ∨ j ≠ 13) → (tag b ≠ 46 ∨ j ≠ 14) → (tag b ≠ 46 ∨ j ≠ 15) → fld F b j = fld Fo b j) ∧ (∀ b j : Nat, tag b ≠ 30 → tag b ≠ 31 → tag b ≠ 34 → tag b ≠ 35 → tag b ≠ 36 → tag b ≠ 37 → elm F b j = elm Fo b j) := ⟨fun b j n44_8 n44_12 n46_8 n46_9 n46_10 n46_11 n46_12 n46_13 n46_14 n46_15 => (yz21055.1 b j n46_8 n46_9 n46_10 n46_11 n46_12 n46_13 n46_14 n46_15).trans (hfr.1 b j n44_8 n44_12 n46_8 n46_9 n46_10 n46_11 n46_12 n46_13 n46_14 n46_15), fun b j a30 a31 a34 a35 a36 a37 => (yz21055.2 b j ).trans (hfr.2 b j a30 a31 a34 a35 a36 a37)⟩
        have hrel := msr_of (fun j => yz21055.2 _ j ) (fun j => yz21055.2 _ j ) hrel
        have hstk := STK.tr hstk stz21055
        have hspt := SPT.tr hspt ptz21055
        refine lv_istore (lv' := [(6, .int z21055), (5, .int z21054), (4, .int z21053), (3, .int z21005), (1, .long z21003), (0, .ref p0)]) hx hb dX13_readHouse_131 hl (by decide) rfl (fun ls hl => ?_)
        refine lv_aload_n hx hb dX13_readHouse_133 rfl (lv_at hl 5 rfl) ?_
        refine t_get (C := RX13) (T := TX13) (N := 37) X hT m0 g0 rfl rfl 9 (by decide) qw_478 inlX13 rfl dX13_readHouse_134 (fun v21056 hv21056 ov21056 => ?_)
        obtain rfl : v21056 = .int soz21055 := hv21056.symm.trans qsoz21055
        refine lv_iconst (v := 5) hx hb dX13_readHouse_137 (by decide) ?_
        refine lv_icmp_ne (tgt := 142) hx hb dX13_readHouse_138 (by decide) (fun c21057 => ?_) (fun c21057 => ?_)
        · have w21058 := cv_ne (rfl : soz21055.toInt = soz21055.toInt) (by decide : (5 : Int32).toInt = 5) c21057
          have w21059 := (fun h9 => (fun h9 => (fun h9 => (fun h9 => (fun h9 => (fun h9 => (fun h9 => (fun h9 => pxz21001_0 (fun e9 => h9 (stz21003 e9))) (fun e9 => h9 (stz21004 e9))) (fun e9 => h9 (stz21005 e9))) (fun e9 => h9 (stz21051 e9))) (fun e9 => h9 (stz21052 e9))) (fun e9 => h9 (stz21053 e9))) (fun e9 => h9 (stz21054 e9))) (fun e9 => h9 (stz21055 e9))) (by omega)
          have w21060 := (fun h9 => (fun h9 => (fun h9 => (fun h9 => (fun h9 => (fun h9 => (fun h9 => (fun h9 => pxz21001_0 (fun e9 => h9 (stz21003 e9))) (fun e9 => h9 (stz21004 e9))) (fun e9 => h9 (stz21005 e9))) (fun e9 => h9 (stz21051 e9))) (fun e9 => h9 (stz21052 e9))) (fun e9 => h9 (stz21053 e9))) (fun e9 => h9 (stz21054 e9))) (fun e9 => h9 (stz21055 e9))) (by omega)
          refine lv_aload_n hx hb dX13_readHouse_142 rfl (lv_at hl 5 rfl) ?_
          refine t_get (C := RX13) (T := TX13) (N := 37) X hT m0 g0 rfl rfl 4 (by decide) qw_477 inlX13 rfl dX13_readHouse_143 (fun v21061 hv21061 ov21061 => ?_)
          obtain rfl : v21061 = .ref x0 := hv21061.symm.trans pf0
          refine t_getN (C := RX12) (T := TX12) (N := 31) X hT mx0 gx0 rfl rfl 8 (by decide) (List.mem_of_getElem? (i := 12) rfl) inlX12 rfl dX13_readHouse_146 (fun v21062 hv21062 ov21062 => ?_)
          obtain rfl : v21062 = .int x8 := hv21062.symm.trans pf8
          refine lv_istore (lv' := [(7, .int x8), (6, .int z21055), (5, .int z21054), (4, .int z21053), (3, .int z21005), (1, .long z21003), (0, .ref p0)]) hx hb dX13_readHouse_149 hl (by decide) rfl (fun ls hl => ?_)
          refine lv_aload_n hx hb dX13_readHouse_151 rfl (lv_at hl 6 rfl) ?_
          refine lv_lload_n hx hb dX13_readHouse_152 rfl (lv_at hl 5 rfl) ?_
          refine lv_iconst (v := 1) hx hb dX13_readHouse_153 (by decide) ?_
          refine lv_iload hx hb dX13_readHouse_154 (lv_at hl 0 rfl) ?_
          have w21063 : 0 ≤ x6.toInt ∧ x6.toInt ≤ 20 := by omega
          refine t_cVv (n := 3) (C := RX13) (T := TX13) (N := 37) (As := [.long z21003, .int 1, .int x8]) (rest := []) X hT (km58_X13_names l G tag L F hT.2.2.2 p0 z21003 1 x8 x0 x1 x2 x6 m0 g0 (by decide) (by omega) mx0 gx0 pf0 mx1 gx1 pf1 mx2 gx2 pf2 (by omega) pf6 hrel) m0 g0 rfl rfl qw_608 qw_609 qw_610 qw_5 qw_611 ⟨rfl, by decide +kernel, by decide +kernel, by decide +kernel⟩ ⟨Nat.le_of_ble_eq_true rfl, Nat.le_of_ble_eq_true rfl⟩ hl rfl rfl (Nat.le_of_ble_eq_true rfl) dX13_readHouse_156 ⟨Nat.le_of_ble_eq_true rfl, Nat.le_of_ble_eq_true rfl⟩ (fun F H locs hT hz21064 => ?_)
          obtain ⟨yz21064, hrel, xz21064_0⟩ := hz21064
          have pf0 := (yz21064.1 _ 4 (Or.inr (by decide))).trans pf0
          have pf1 := (yz21064.1 _ 28 (Or.inr (by decide))).trans pf1
          have pf2 := (yz21064.1 _ 29 (Or.inr (by decide))).trans pf2
          have pf7 := (yz21064.1 _ 7 (Or.inr (by decide))).trans pf7
          have pf8 := (yz21064.1 _ 8 (Or.inr (by decide))).trans pf8
          have pf9 := (yz21064.1 _ 9 (Or.inr (by decide))).trans pf9
          have pf10 := (yz21064.1 _ 10 (Or.inr (by decide))).trans pf10
          have pf11 := (yz21064.1 _ 0 (Or.inr (by decide))).trans pf11
          have hv21022 := (yz21064.1 _ 15 (Or.inr (by decide))).trans hv21022
          have vz21024 := (yz21064.2 _ _ (by rw [gb21023]; decide) (by rw [gb21023]; decide) (by rw [gb21023]; decide)).trans vz21024
          have hv21040 := (yz21064.1 _ 30 (Or.inr (by decide))).trans hv21040
          have qsoz21055 := (yz21064.1 _ 9 (Or.inr (by decide))).trans qsoz21055
          have qspz21055 := (yz21064.1 _ 8 (Or.inr (by decide))).trans qspz21055
          have qfaz21055 := (yz21064.1 _ 13 (Or.inr (by decide))).trans qfaz21055
          have hfr : (∀ b j : Nat, (tag b ≠ 44 ∨ j ≠ 8) → (tag b ≠ 44 ∨ j ≠ 12) → (tag b ≠ 46 ∨ j ≠ 8) → (tag b ≠ 46 ∨ j ≠ 9) → (tag b ≠ 46 ∨ j ≠ 10) → (tag b ≠ 46 ∨ j ≠ 11) → (tag b ≠ 46 ∨ j ≠ 12) → (tag b ≠ 46 ∨ j ≠ 13) → (tag b ≠ 46 ∨ j ≠ 14) → (tag b ≠ 46 ∨ j ≠ 15) → fld F b j = fld Fo b j) ∧ (∀ b j : Nat, tag b ≠ 30 → tag b ≠ 31 → tag b ≠ 34 → tag b ≠ 35 → tag b ≠ 36 → tag b ≠ 37 → elm F b j = elm Fo b j) := ⟨fun b j n44_8 n44_12 n46_8 n46_9 n46_10 n46_11 n46_12 n46_13 n46_14 n46_15 => (yz21064.1 b j n44_12).trans (hfr.1 b j n44_8 n44_12 n46_8 n46_9 n46_10 n46_11 n46_12 n46_13 n46_14 n46_15), fun b j a30 a31 a34 a35 a36 a37 => (yz21064.2 b j a34 a35 a36).trans (hfr.2 b j a30 a31 a34 a35 a36 a37)⟩
          obtain ⟨z21065, qz21065, hz21065⟩ := xz21064_0
          have rz21065 : 0 ≤ z21065.toInt ∧ z21065.toInt ≤ 32 := by omega
          refine lv_aload_n hx hb dX13_readHouse_159 rfl (lv_at hl 6 rfl) ?_
          refine t_get (C := RX13) (T := TX13) (N := 37) X hT m0 g0 rfl rfl 4 (by decide) qw_477 inlX13 rfl dX13_readHouse_160 (fun v21066 hv21066 ov21066 => ?_)
          obtain rfl : v21066 = .ref x0 := hv21066.symm.trans pf0
          refine t_getN (C := RX12) (T := TX12) (N := 31) X hT mx0 gx0 rfl rfl 21 (by decide) (List.mem_of_getElem? (i := 25) rfl) inlX12 rfl dX13_readHouse_163 (fun v21067 hv21067 ov21067 => ?_)
          obtain ⟨b21068, rfl, mb21068, gb21068⟩ := okV_r ov21067
          have gb21068 : tag b21068 = 30 := tg_of gb21068
          refine lv_iload hx hb dX13_readHouse_166 (lv_at hl 0 rfl) ?_
          refine lv_iload_n hx hb dX13_readHouse_168 rfl (lv_at hl 4 rfl) ?_
          refine t_ist X hT mb21068 gb21068 rfl (by omega) (show 0 ≤ (z21005 : Int32).toInt ∧ (z21005 : Int32).toInt ≤ 143 from (by omega)) dX13_readHouse_169 (fun F H locs hT v21069 h1v21069 h2v21069 => ?_)
          have pf0 := (h2v21069 _ _).trans pf0
          have pf1 := (h2v21069 _ _).trans pf1
          have pf2 := (h2v21069 _ _).trans pf2
          have pf7 := (h2v21069 _ _).trans pf7
          have pf8 := (h2v21069 _ _).trans pf8
          have pf9 := (h2v21069 _ _).trans pf9
          have pf10 := (h2v21069 _ _).trans pf10
          have pf11 := (h2v21069 _ _).trans pf11
          have hv21022 := (h2v21069 _ _).trans hv21022
          have vz21024 := (h1v21069 _ _ (Or.inl (tne gb21023 gb21068 (by decide)))).trans vz21024
          have hv21040 := (h2v21069 _ _).trans hv21040
          have qsoz21055 := (h2v21069 _ _).trans qsoz21055
          have qspz21055 := (h2v21069 _ _).trans qspz21055
          have qfaz21055 := (h2v21069 _ _).trans qfaz21055
          have qz21065 := (h2v21069 _ _).trans qz21065
          have hv21067 := (h2v21069 _ _).trans hv21067
          have hfr : (∀ b j : Nat, (tag b ≠ 44 ∨ j ≠ 8) → (tag b ≠ 44 ∨ j ≠ 12) → (tag b ≠ 46 ∨ j ≠ 8) → (tag b ≠ 46 ∨ j ≠ 9) → (tag b ≠ 46 ∨ j ≠ 10) → (tag b ≠ 46 ∨ j ≠ 11) → (tag b ≠ 46 ∨ j ≠ 12) → (tag b ≠ 46 ∨ j ≠ 13) → (tag b ≠ 46 ∨ j ≠ 14) → (tag b ≠ 46 ∨ j ≠ 15) → fld F b j = fld Fo b j) ∧ (∀ b j : Nat, tag b ≠ 30 → tag b ≠ 31 → tag b ≠ 34 → tag b ≠ 35 → tag b ≠ 36 → tag b ≠ 37 → elm F b j = elm Fo b j) := ⟨fun b j n44_8 n44_12 n46_8 n46_9 n46_10 n46_11 n46_12 n46_13 n46_14 n46_15 => (h2v21069 b j).trans (hfr.1 b j n44_8 n44_12 n46_8 n46_9 n46_10 n46_11 n46_12 n46_13 n46_14 n46_15), fun b j a30 a31 a34 a35 a36 a37 => (h1v21069 b j (Or.inl (at_ne gb21068 a30))).trans (hfr.2 b j a30 a31 a34 a35 a36 a37)⟩
          have hrel := msr_of (fun j => h1v21069 _ j (Or.inl (tne gx1 gb21068 (by decide)))) (fun j => h1v21069 _ j (Or.inl (tne gx2 gb21068 (by decide)))) hrel
          refine lv_aload_n hx hb dX13_readHouse_170 rfl (lv_at hl 6 rfl) ?_
          refine t_get (C := RX13) (T := TX13) (N := 37) X hT m0 g0 rfl rfl 4 (by decide) qw_477 inlX13 rfl dX13_readHouse_171 (fun v21070 hv21070 ov21070 => ?_)
          obtain rfl : v21070 = .ref x0 := hv21070.symm.trans pf0
          refine t_getN (C := RX12) (T := TX12) (N := 31) X hT mx0 gx0 rfl rfl 22 (by decide) (List.mem_of_getElem? (i := 26) rfl) inlX12 rfl dX13_readHouse_174 (fun v21071 hv21071 ov21071 => ?_)
          obtain ⟨b21072, rfl, mb21072, gb21072⟩ := okV_r ov21071
          have gb21072 : tag b21072 = 31 := tg_of gb21072
          refine lv_iload hx hb dX13_readHouse_177 (lv_at hl 0 rfl) ?_
          refine lv_iload hx hb dX13_readHouse_179 (lv_at hl 3 rfl) ?_
          refine t_ist X hT mb21072 gb21072 rfl (by omega) (show 0 ≤ (z21053 : Int32).toInt ∧ (z21053 : Int32).toInt ≤ 3 from (by omega)) dX13_readHouse_181 (fun F H locs hT v21073 h1v21073 h2v21073 => ?_)
          have pf0 := (h2v21073 _ _).trans pf0
          have pf1 := (h2v21073 _ _).trans pf1
          have pf2 := (h2v21073 _ _).trans pf2
          have pf7 := (h2v21073 _ _).trans pf7
          have pf8 := (h2v21073 _ _).trans pf8
          have pf9 := (h2v21073 _ _).trans pf9
          have pf10 := (h2v21073 _ _).trans pf10
          have pf11 := (h2v21073 _ _).trans pf11
          have hv21022 := (h2v21073 _ _).trans hv21022
          have vz21024 := (h1v21073 _ _ (Or.inl (tne gb21023 gb21072 (by decide)))).trans vz21024
          have hv21040 := (h2v21073 _ _).trans hv21040
          have qsoz21055 := (h2v21073 _ _).trans qsoz21055
          have qspz21055 := (h2v21073 _ _).trans qspz21055
          have qfaz21055 := (h2v21073 _ _).trans qfaz21055
          have qz21065 := (h2v21073 _ _).trans qz21065
          have hv21067 := (h2v21073 _ _).trans hv21067
          have v21069 := (h1v21073 _ _ (Or.inl (tne gb21068 gb21072 (by decide)))).trans v21069
          have hv21071 := (h2v21073 _ _).trans hv21071
          have hfr : (∀ b j : Nat, (tag b ≠ 44 ∨ j ≠ 8) → (tag b ≠ 44 ∨ j ≠ 12) → (tag b ≠ 46 ∨ j ≠ 8) → (tag b ≠ 46 ∨ j ≠ 9) → (tag b ≠ 46 ∨ j ≠ 10) → (tag b ≠ 46 ∨ j ≠ 11) → (tag b ≠ 46 ∨ j ≠ 12) → (tag b ≠ 46 ∨ j ≠ 13) → (tag b ≠ 46 ∨ j ≠ 14) → (tag b ≠ 46 ∨ j ≠ 15) → fld F b j = fld Fo b j) ∧ (∀ b j : Nat, tag b ≠ 30 → tag b ≠ 31 → tag b ≠ 34 → tag b ≠ 35 → tag b ≠ 36 → tag b ≠ 37 → elm F b j = elm Fo b j) := ⟨fun b j n44_8 n44_12 n46_8 n46_9 n46_10 n46_11 n46_12 n46_13 n46_14 n46_15 => (h2v21073 b j).trans (hfr.1 b j n44_8 n44_12 n46_8 n46_9 n46_10 n46_11 n46_12 n46_13 n46_14 n46_15), fun b j a30 a31 a34 a35 a36 a37 => (h1v21073 b j (Or.inl (at_ne gb21072 a31))).trans (hfr.2 b j a30 a31 a34 a35 a36 a37)⟩
          have hrel := msr_of (fun j => h1v21073 _ j (Or.inl (tne gx1 gb21072 (by decide)))) (fun j => h1v21073 _ j (Or.inl (tne gx2 gb21072 (by decide)))) hrel
          refine lv_aload_n hx hb dX13_readHouse_182 rfl (lv_at hl 6 rfl) ?_
          refine t_get (C := RX13) (T := TX13) (N := 37) X hT m0 g0 rfl rfl 4 (by decide) qw_477 inlX13 rfl dX13_readHouse_183 (fun v21074 hv21074 ov21074 => ?_)
          obtain rfl : v21074 = .ref x0 := hv21074.symm.trans pf0
          refine t_getN (C := RX12) (T := TX12) (N := 31) X hT mx0 gx0 rfl rfl 30 (by decide) (List.mem_of_getElem? (i := 34) rfl) inlX12 rfl dX13_readHouse_186 (fun v21075 hv21075 ov21075 => ?_)
          obtain rfl : v21075 = .ref b21041 := hv21075.symm.trans hv21040
          refine lv_iconst (v := 4) hx hb dX13_readHouse_189 (by decide) ?_
          refine lv_iload hx hb dX13_readHouse_190 (lv_at hl 0 rfl) ?_
          refine lv_iadd hx hb dX13_readHouse_192 ?_
          refine lv_topi (fun z21076 ez21076 => ?_)
          have hz21076 : z21076.toInt = 4 + x8.toInt := ar_add ez21076 (by decide : (4 : Int32).toInt = 4) (rfl : x8.toInt = x8.toInt) (by omega) (by omega)
          have rz21076 : 4 ≤ z21076.toInt ∧ z21076.toInt ≤ 7 := by omega
          refine lv_iload hx hb dX13_readHouse_193 (lv_at hl 2 rfl) ?_
          refine t_ist X hT mb21041 gb21041 rfl (by omega) (row_fv (by omega) (Or.inl (by omega))) dX13_readHouse_195 (fun F H locs hT v21077 h1v21077 h2v21077 => ?_)
          have pf0 := (h2v21077 _ _).trans pf0
          have pf1 := (h2v21077 _ _).trans pf1
          have pf2 := (h2v21077 _ _).trans pf2
          have pf7 := (h2v21077 _ _).trans pf7
          have pf8 := (h2v21077 _ _).trans pf8
          have pf9 := (h2v21077 _ _).trans pf9
          have pf10 := (h2v21077 _ _).trans pf10
          have pf11 := (h2v21077 _ _).trans pf11
          have hv21022 := (h2v21077 _ _).trans hv21022
          have vz21024 := (h1v21077 _ _ (Or.inl (tne gb21023 gb21041 (by decide)))).trans vz21024
          have hv21040 := (h2v21077 _ _).trans hv21040
          have qsoz21055 := (h2v21077 _ _).trans qsoz21055
          have qspz21055 := (h2v21077 _ _).trans qspz21055
          have qfaz21055 := (h2v21077 _ _).trans qfaz21055
          have qz21065 := (h2v21077 _ _).trans qz21065
          have hv21067 := (h2v21077 _ _).trans hv21067
          have v21069 := (h1v21077 _ _ (Or.inl (tne gb21068 gb21041 (by decide)))).trans v21069
          have hv21071 := (h2v21077 _ _).trans hv21071
          have v21073 := (h1v21077 _ _ (Or.inl (tne gb21072 gb21041 (by decide)))).trans v21073
          have hfr : (∀ b j : Nat, (tag b ≠ 44 ∨ j ≠ 8) → (tag b ≠ 44 ∨ j ≠ 12) → (tag b ≠ 46 ∨ j ≠ 8) → (tag b ≠ 46 ∨ j ≠ 9) → (tag b ≠ 46 ∨ j ≠ 10) → (tag b ≠ 46 ∨ j ≠ 11) → (tag b ≠ 46 ∨ j ≠ 12) → (tag b ≠ 46 ∨ j ≠ 13) → (tag b ≠ 46 ∨ j ≠ 14) → (tag b ≠ 46 ∨ j ≠ 15) → fld F b j = fld Fo b j) ∧ (∀ b j : Nat, tag b ≠ 30 → tag b ≠ 31 → tag b ≠ 34 → tag b ≠ 35 → tag b ≠ 36 → tag b ≠ 37 → elm F b j = elm Fo b j) := ⟨fun b j n44_8 n44_12 n46_8 n46_9 n46_10 n46_11 n46_12 n46_13 n46_14 n46_15 => (h2v21077 b j).trans (hfr.1 b j n44_8 n44_12 n46_8 n46_9 n46_10 n46_11 n46_12 n46_13 n46_14 n46_15), fun b j a30 a31 a34 a35 a36 a37 => (h1v21077 b j (Or.inl (at_ne gb21041 a37))).trans (hfr.2 b j a30 a31 a34 a35 a36 a37)⟩
          have hrel := msr_of (fun j => h1v21077 _ j (Or.inl (tne gx1 gb21041 (by decide)))) (fun j => h1v21077 _ j (Or.inl (tne gx2 gb21041 (by decide)))) hrel
          refine lv_aload_n hx hb dX13_readHouse_196 rfl (lv_at hl 6 rfl) ?_
          refine t_get (C := RX13) (T := TX13) (N := 37) X hT m0 g0 rfl rfl 4 (by decide) qw_477 inlX13 rfl dX13_readHouse_197 (fun v21078 hv21078 ov21078 => ?_)
          obtain rfl : v21078 = .ref x0 := hv21078.symm.trans pf0
          refine t_getN (C := RX12) (T := TX12) (N := 31) X hT mx0 gx0 rfl rfl 30 (by decide) (List.mem_of_getElem? (i := 34) rfl) inlX12 rfl dX13_readHouse_200 (fun v21079 hv21079 ov21079 => ?_)
          obtain rfl : v21079 = .ref b21041 := hv21079.symm.trans hv21040
          refine lv_bipush (v := 8) hx hb dX13_readHouse_203 (by decide) ?_
          refine lv_iload hx hb dX13_readHouse_205 (lv_at hl 0 rfl) ?_
          refine lv_iadd hx hb dX13_readHouse_207 ?_
          refine lv_topi (fun z21080 ez21080 => ?_)
          have hz21080 : z21080.toInt = 8 + x8.toInt := ar_add ez21080 (by decide : (8 : Int32).toInt = 8) (rfl : x8.toInt = x8.toInt) (by omega) (by omega)
          have rz21080 : 8 ≤ z21080.toInt ∧ z21080.toInt ≤ 11 := by omega
          refine lv_iload hx hb dX13_readHouse_208 (lv_at hl 1 rfl) ?_
          refine t_ist X hT mb21041 gb21041 rfl (by omega) (row_fv (by omega) (Or.inl (by omega))) dX13_readHouse_210 (fun F H locs hT v21081 h1v21081 h2v21081 => ?_)
          have pf0 := (h2v21081 _ _).trans pf0
          have pf1 := (h2v21081 _ _).trans pf1
          have pf2 := (h2v21081 _ _).trans pf2
          have pf7 := (h2v21081 _ _).trans pf7
          have pf8 := (h2v21081 _ _).trans pf8
          have pf9 := (h2v21081 _ _).trans pf9
          have pf10 := (h2v21081 _ _).trans pf10
          have pf11 := (h2v21081 _ _).trans pf11
          have hv21022 := (h2v21081 _ _).trans hv21022
          have vz21024 := (h1v21081 _ _ (Or.inl (tne gb21023 gb21041 (by decide)))).trans vz21024
          have hv21040 := (h2v21081 _ _).trans hv21040
          have qsoz21055 := (h2v21081 _ _).trans qsoz21055
          have qspz21055 := (h2v21081 _ _).trans qspz21055
          have qfaz21055 := (h2v21081 _ _).trans qfaz21055
          have qz21065 := (h2v21081 _ _).trans qz21065
          have hv21067 := (h2v21081 _ _).trans hv21067
          have v21069 := (h1v21081 _ _ (Or.inl (tne gb21068 gb21041 (by decide)))).trans v21069
          have hv21071 := (h2v21081 _ _).trans hv21071
          have v21073 := (h1v21081 _ _ (Or.inl (tne gb21072 gb21041 (by decide)))).trans v21073
          have v21077 := (h1v21081 _ _ (Or.inr (ine (by omega) (by omega) (by omega)))).trans v21077
          have hfr : (∀ b j : Nat, (tag b ≠ 44 ∨ j ≠ 8) → (tag b ≠ 44 ∨ j ≠ 12) → (tag b ≠ 46 ∨ j ≠ 8) → (tag b ≠ 46 ∨ j ≠ 9) → (tag b ≠ 46 ∨ j ≠ 10) → (tag b ≠ 46 ∨ j ≠ 11) → (tag b ≠ 46 ∨ j ≠ 12) → (tag b ≠ 46 ∨ j ≠ 13) → (tag b ≠ 46 ∨ j ≠ 14) → (tag b ≠ 46 ∨ j ≠ 15) → fld F b j = fld Fo b j) ∧ (∀ b j : Nat, tag b ≠ 30 → tag b ≠ 31 → tag b ≠ 34 → tag b ≠ 35 → tag b ≠ 36 → tag b ≠ 37 → elm F b j = elm Fo b j) := ⟨fun b j n44_8 n44_12 n46_8 n46_9 n46_10 n46_11 n46_12 n46_13 n46_14 n46_15 => (h2v21081 b j).trans (hfr.1 b j n44_8 n44_12 n46_8 n46_9 n46_10 n46_11 n46_12 n46_13 n46_14 n46_15), fun b j a30 a31 a34 a35 a36 a37 => (h1v21081 b j (Or.inl (at_ne gb21041 a37))).trans (hfr.2 b j a30 a31 a34 a35 a36 a37)⟩
          have hrel := msr_of (fun j => h1v21081 _ j (Or.inl (tne gx1 gb21041 (by decide)))) (fun j => h1v21081 _ j (Or.inl (tne gx2 gb21041 (by decide)))) hrel
          refine lv_aload_n hx hb dX13_readHouse_211 rfl (lv_at hl 6 rfl) ?_
          refine t_get (C := RX13) (T := TX13) (N := 37) X hT m0 g0 rfl rfl 4 (by decide) qw_477 inlX13 rfl dX13_readHouse_212 (fun v21082 hv21082 ov21082 => ?_)
          obtain rfl : v21082 = .ref x0 := hv21082.symm.trans pf0
          refine lv_dup hx hb dX13_readHouse_215 rfl ?_
          refine t_getN (C := RX12) (T := TX12) (N := 31) X hT mx0 gx0 rfl rfl 8 (by decide) (List.mem_of_getElem? (i := 12) rfl) inlX12 rfl dX13_readHouse_216 (fun v21083 hv21083 ov21083 => ?_)
          obtain rfl : v21083 = .int x8 := hv21083.symm.trans pf8
          refine lv_iconst (v := 1) hx hb dX13_readHouse_219 (by decide) ?_
          refine lv_iadd hx hb dX13_readHouse_220 ?_
          refine lv_topi (fun z21084 ez21084 => ?_)
          have hz21084 : z21084.toInt = x8.toInt + 1 := ar_add ez21084 (rfl : x8.toInt = x8.toInt) (by decide : (1 : Int32).toInt = 1) (by omega) (by omega)
          have rz21084 : 1 ≤ z21084.toInt ∧ z21084.toInt ≤ 4 := by omega
          refine t_putN (C := RX12) (T := TX12) (N := 31) (v := .int z21084) X hT mx0 gx0 rfl tyX12 tyX12_ok nmX12 rfl 8 (by decide) (List.mem_of_getElem? (i := 12) rfl) inlX12 rfl (by first | rfl | decide) (by first | rfl | decide) rfl (⟨_, rfl, (show 0 ≤ (z21084 : Int32).toInt from (by omega)), (show (z21084 : Int32).toInt ≤ 4 from (by omega))⟩) dX13_readHouse_221 (fun F H locs hT v21085 h1v21085 h2v21085 => ?_)
          have pf0 := (h1v21085 _ _ (Or.inr (by decide))).trans pf0
          have pf1 := (h1v21085 _ _ (Or.inr (by decide))).trans pf1
          have pf2 := (h1v21085 _ _ (Or.inr (by decide))).trans pf2
          have pf7 := (h1v21085 _ _ (Or.inr (by decide))).trans pf7
          have pf9 := (h1v21085 _ _ (Or.inr (by decide))).trans pf9
          have pf10 := (h1v21085 _ _ (Or.inr (by decide))).trans pf10
          have pf11 := (h1v21085 _ _ (Or.inr (by decide))).trans pf11
          have hv21022 := (h1v21085 _ _ (Or.inr (by decide))).trans hv21022
          have vz21024 := (h2v21085 _ _).trans vz21024
          have hv21040 := (h1v21085 _ _ (Or.inr (by decide))).trans hv21040
          have qsoz21055 := (h1v21085 _ _ (Or.inr (by decide))).trans qsoz21055
          have qspz21055 := (h1v21085 _ _ (Or.inl (tne g0 gx0 (by decide)))).trans qspz21055
          have qfaz21055 := (h1v21085 _ _ (Or.inr (by decide))).trans qfaz21055
          have qz21065 := (h1v21085 _ _ (Or.inr (by decide))).trans qz21065
          have hv21067 := (h1v21085 _ _ (Or.inr (by decide))).trans hv21067
          have v21069 := (h2v21085 _ _).trans v21069
          have hv21071 := (h1v21085 _ _ (Or.inr (by decide))).trans hv21071
          have v21073 := (h2v21085 _ _).trans v21073
          have v21077 := (h2v21085 _ _).trans v21077
          have v21081 := (h2v21085 _ _).trans v21081
          have hfr : (∀ b j : Nat, (tag b ≠ 44 ∨ j ≠ 8) → (tag b ≠ 44 ∨ j ≠ 12) → (tag b ≠ 46 ∨ j ≠ 8) → (tag b ≠ 46 ∨ j ≠ 9) → (tag b ≠ 46 ∨ j ≠ 10) → (tag b ≠ 46 ∨ j ≠ 11) → (tag b ≠ 46 ∨ j ≠ 12) → (tag b ≠ 46 ∨ j ≠ 13) → (tag b ≠ 46 ∨ j ≠ 14) → (tag b ≠ 46 ∨ j ≠ 15) → fld F b j = fld Fo b j) ∧ (∀ b j : Nat, tag b ≠ 30 → tag b ≠ 31 → tag b ≠ 34 → tag b ≠ 35 → tag b ≠ 36 → tag b ≠ 37 → elm F b j = elm Fo b j) := ⟨fun b j n44_8 n44_12 n46_8 n46_9 n46_10 n46_11 n46_12 n46_13 n46_14 n46_15 => (h1v21085 b j (fr_ne gx0 n44_8)).trans (hfr.1 b j n44_8 n44_12 n46_8 n46_9 n46_10 n46_11 n46_12 n46_13 n46_14 n46_15), fun b j a30 a31 a34 a35 a36 a37 => (h2v21085 b j).trans (hfr.2 b j a30 a31 a34 a35 a36 a37)⟩
          have hrel := msr_of (fun j => h2v21085 _ j) (fun j => h2v21085 _ j) hrel
          have hpl : PLr z21065 x7 z21084 x9 x10 x11 := ⟨by omega, fun _ => by omega⟩
          exact t_vret hQ X hT ⟨hfr, hrel, ⟨soz21055, spz21055, faz21055, qsoz21055, qspz21055, qfaz21055, (by omega), (by omega), (by omega), hstk, hspt, hkf⟩, ⟨z21065, x7, z21084, x9, x10, x11, qz21065, pf7, v21085, pf9, pf10, pf11, (by omega), (by omega), (by omega), (by omega), (by omega), (by omega), hpl⟩⟩ (Nat.le_of_ble_eq_true rfl) (Nat.le_of_ble_eq_true rfl) dX13_readHouse_224
        · have w21086 := cv_eq (rfl : soz21055.toInt = soz21055.toInt) (by decide : (5 : Int32).toInt = 5) c21057
          exact t_vret hQ X hT ⟨hfr, hrel, ⟨soz21055, spz21055, faz21055, qsoz21055, qspz21055, qfaz21055, (by omega), (by omega), (by omega), hstk, hspt, hkf⟩, ⟨x6, x7, x8, x9, x10, x11, pf6, pf7, pf8, pf9, pf10, pf11, (by omega), (by omega), (by omega), (by omega), (by omega), (by omega), hpl⟩⟩ (Nat.le_of_ble_eq_true rfl) (Nat.le_of_ble_eq_true rfl) dX13_readHouse_141
      · have w21087 := cv_ne (rfl : z21048.toInt = z21048.toInt) (by decide : (0 : Int32).toInt = 0) c21049
        refine lv_aload_n hx hb dX13_readHouse_84 rfl (lv_at hl 2 rfl) ?_
        refine lv_bipush (v := 7) hx hb dX13_readHouse_85 (by decide) ?_
        refine t_cVv (n := 1) (C := RX13) (T := TX13) (N := 37) (As := [.int 7]) (rest := []) X hT (km10_X13_flaw l G tag L F hT.2.2.2 p0 7 x0 x1 x2 soz21005 spz21005 faz21005 m0 g0 (by decide) mx0 gx0 pf0 mx1 gx1 pf1 mx2 gx2 pf2 (by omega) qsoz21005 (by omega) qspz21005 (by omega) qfaz21005 hkf) m0 g0 rfl rfl qw_548 qw_549 qw_550 qw_5 qw_551 ⟨rfl, by decide +kernel, by decide +kernel, by decide +kernel⟩ ⟨Nat.le_of_ble_eq_true rfl, Nat.le_of_ble_eq_true rfl⟩ hl rfl rfl (Nat.le_of_ble_eq_true rfl) dX13_readHouse_87 ⟨Nat.le_of_ble_eq_true rfl, Nat.le_of_ble_eq_true rfl⟩ (fun F H locs hT hz21088 => ?_)
        obtain ⟨yz21088, ⟨soz21088, spz21088, faz21088, qsoz21088, qspz21088, qfaz21088, rsoz21088, rspz21088, rfaz21088, stz21088, ptz21088, hkf, pxz21088_0⟩⟩ := hz21088
        have pf0 := (yz21088.1 _ 4 (Or.inr (by decide)) (Or.inr (by decide)) (Or.inr (by decide))).trans pf0
        have pf1 := (yz21088.1 _ 28 (Or.inr (by decide)) (Or.inr (by decide)) (Or.inr (by decide))).trans pf1
        have pf2 := (yz21088.1 _ 29 (Or.inr (by decide)) (Or.inr (by decide)) (Or.inr (by decide))).trans pf2
        have pf6 := (yz21088.1 _ 12 (Or.inr (by decide)) (Or.inr (by decide)) (Or.inr (by decide))).trans pf6
        have pf7 := (yz21088.1 _ 7 (Or.inr (by decide)) (Or.inr (by decide)) (Or.inr (by decide))).trans pf7
        have pf8 := (yz21088.1 _ 8 (Or.inr (by decide)) (Or.inr (by decide)) (Or.inr (by decide))).trans pf8
        have pf9 := (yz21088.1 _ 9 (Or.inl (by rw [gx0]; decide)) (Or.inr (by decide)) (Or.inr (by decide))).trans pf9
        have pf10 := (yz21088.1 _ 10 (Or.inr (by decide)) (Or.inr (by decide)) (Or.inr (by decide))).trans pf10
        have pf11 := (yz21088.1 _ 0 (Or.inr (by decide)) (Or.inr (by decide)) (Or.inr (by decide))).trans pf11
        have qspz21005 := (yz21088.1 _ 8 (Or.inr (by decide)) (Or.inr (by decide)) (Or.inr (by decide))).trans qspz21005
        have hv21022 := (yz21088.1 _ 15 (Or.inr (by decide)) (Or.inr (by decide)) (Or.inr (by decide))).trans hv21022
        have vz21024 := (yz21088.2 _ _ ).trans vz21024
        have hv21040 := (yz21088.1 _ 30 (Or.inr (by decide)) (Or.inr (by decide)) (Or.inr (by decide))).trans hv21040
        have hfr : (∀ b j : Nat, (tag b ≠ 44 ∨ j ≠ 8) → (tag b ≠ 44 ∨ j ≠ 12) → (tag b ≠ 46 ∨ j ≠ 8) → (tag b ≠ 46 ∨ j ≠ 9) → (tag b ≠ 46 ∨ j ≠ 10) → (tag b ≠ 46 ∨ j ≠ 11) → (tag b ≠ 46 ∨ j ≠ 12) → (tag b ≠ 46 ∨ j ≠ 13) → (tag b ≠ 46 ∨ j ≠ 14) → (tag b ≠ 46 ∨ j ≠ 15) → fld F b j = fld Fo b j) ∧ (∀ b j : Nat, tag b ≠ 30 → tag b ≠ 31 → tag b ≠ 34 → tag b ≠ 35 → tag b ≠ 36 → tag b ≠ 37 → elm F b j = elm Fo b j) := ⟨fun b j n44_8 n44_12 n46_8 n46_9 n46_10 n46_11 n46_12 n46_13 n46_14 n46_15 => (yz21088.1 b j n46_9 n46_13 n46_14).trans (hfr.1 b j n44_8 n44_12 n46_8 n46_9 n46_10 n46_11 n46_12 n46_13 n46_14 n46_15), fun b j a30 a31 a34 a35 a36 a37 => (yz21088.2 b j ).trans (hfr.2 b j a30 a31 a34 a35 a36 a37)⟩
        have hrel := msr_of (fun j => yz21088.2 _ j ) (fun j => yz21088.2 _ j ) hrel
        have hstk := STK.tr hstk stz21088
        have hspt := SPT.tr hspt ptz21088
        refine lv_aload_n hx hb dX13_readHouse_90 rfl (lv_at hl 2 rfl) ?_
        refine t_cVv (n := 0) (C := RX13) (T := TX13) (N := 37) (As := []) (rest := []) X hT (km14_X13_goesOn l G tag L F hT.2.2.2 p0 x0 x1 x2 soz21088 spz21088 faz21088 m0 g0 mx0 gx0 pf0 mx1 gx1 pf1 mx2 gx2 pf2 (by omega) qsoz21088 (by omega) qspz21088 (by omega) qfaz21088 hkf) m0 g0 rfl rfl qw_508 qw_509 qw_510 qw_5 qw_511 ⟨rfl, by decide +kernel, by decide +kernel, by decide +kernel⟩ ⟨Nat.le_of_ble_eq_true rfl, Nat.le_of_ble_eq_true rfl⟩ hl rfl rfl (Nat.le_of_ble_eq_true rfl) dX13_readHouse_91 ⟨Nat.le_of_ble_eq_true rfl, Nat.le_of_ble_eq_true rfl⟩ (fun F H locs hT hz21089 => ?_)
        obtain ⟨yz21089, ⟨soz21089, spz21089, faz21089, qsoz21089, qspz21089, qfaz21089, rsoz21089, rspz21089, rfaz21089, stz21089, ptz21089, hkf⟩⟩ := hz21089
        have pf0 := (yz21089.1 _ 4 (Or.inr (by decide)) (Or.inr (by decide)) (Or.inr (by decide)) (Or.inr (by decide)) (Or.inr (by decide)) (Or.inr (by decide))).trans pf0
        have pf1 := (yz21089.1 _ 28 (Or.inr (by decide)) (Or.inr (by decide)) (Or.inr (by decide)) (Or.inr (by decide)) (Or.inr (by decide)) (Or.inr (by decide))).trans pf1
        have pf2 := (yz21089.1 _ 29 (Or.inr (by decide)) (Or.inr (by decide)) (Or.inr (by decide)) (Or.inr (by decide)) (Or.inr (by decide)) (Or.inr (by decide))).trans pf2
        have pf6 := (yz21089.1 _ 12 (Or.inr (by decide)) (Or.inr (by decide)) (Or.inr (by decide)) (Or.inr (by decide)) (Or.inl (by rw [gx0]; decide)) (Or.inr (by decide))).trans pf6
        have pf7 := (yz21089.1 _ 7 (Or.inr (by decide)) (Or.inr (by decide)) (Or.inr (by decide)) (Or.inr (by decide)) (Or.inr (by decide)) (Or.inr (by decide))).trans pf7
        have pf8 := (yz21089.1 _ 8 (Or.inl (by rw [gx0]; decide)) (Or.inr (by decide)) (Or.inr (by decide)) (Or.inr (by decide)) (Or.inr (by decide)) (Or.inr (by decide))).trans pf8
        have pf9 := (yz21089.1 _ 9 (Or.inr (by decide)) (Or.inl (by rw [gx0]; decide)) (Or.inr (by decide)) (Or.inr (by decide)) (Or.inr (by decide)) (Or.inr (by decide))).trans pf9
        have pf10 := (yz21089.1 _ 10 (Or.inr (by decide)) (Or.inr (by decide)) (Or.inl (by rw [gx0]; decide)) (Or.inr (by decide)) (Or.inr (by decide)) (Or.inr (by decide))).trans pf10
        have pf11 := (yz21089.1 _ 0 (Or.inr (by decide)) (Or.inr (by decide)) (Or.inr (by decide)) (Or.inr (by decide)) (Or.inr (by decide)) (Or.inr (by decide))).trans pf11
        have hv21022 := (yz21089.1 _ 15 (Or.inr (by decide)) (Or.inr (by decide)) (Or.inr (by decide)) (Or.inr (by decide)) (Or.inr (by decide)) (Or.inl (by rw [gx0]; decide))).trans hv21022
        have vz21024 := (yz21089.2 _ _ ).trans vz21024
        have hv21040 := (yz21089.1 _ 30 (Or.inr (by decide)) (Or.inr (by decide)) (Or.inr (by decide)) (Or.inr (by decide)) (Or.inr (by decide)) (Or.inr (by decide))).trans hv21040
        have qfaz21088 := (yz21089.1 _ 13 (Or.inr (by decide)) (Or.inr (by decide)) (Or.inr (by decide)) (Or.inr (by decide)) (Or.inr (by decide)) (Or.inr (by decide))).trans qfaz21088
        have hfr : (∀ b j : Nat, (tag b ≠ 44 ∨ j ≠ 8) → (tag b ≠ 44 ∨ j ≠ 12) → (tag b ≠ 46 ∨ j ≠ 8) → (tag b ≠ 46 ∨ j ≠ 9) → (tag b ≠ 46 ∨ j ≠ 10) → (tag b ≠ 46 ∨ j ≠ 11) → (tag b ≠ 46 ∨ j ≠ 12) → (tag b ≠ 46 ∨ j ≠ 13) → (tag b ≠ 46 ∨ j ≠ 14) → (tag b ≠ 46 ∨ j ≠ 15) → fld F b j = fld Fo b j) ∧ (∀ b j : Nat, tag b ≠ 30 → tag b ≠ 31 → tag b ≠ 34 → tag b ≠ 35 → tag b ≠ 36 → tag b ≠ 37 → elm F b j = elm Fo b j) := ⟨fun b j n44_8 n44_12 n46_8 n46_9 n46_10 n46_11 n46_12 n46_13 n46_14 n46_15 => (yz21089.1 b j n46_8 n46_9 n46_10 n46_11 n46_12 n46_15).trans (hfr.1 b j n44_8 n44_12 n46_8 n46_9 n46_10 n46_11 n46_12 n46_13 n46_14 n46_15), fun b j a30 a31 a34 a35 a36 a37 => (yz21089.2 b j ).trans (hfr.2 b j a30 a31 a34 a35 a36 a37)⟩
        have hrel := msr_of (fun j => yz21089.2 _ j ) (fun j => yz21089.2 _ j ) hrel
        have hstk := STK.tr hstk stz21089
        have hspt := SPT.tr hspt ptz21089
        have k5z21089 : soz21089.toInt = 5 := stz21089 (by omega)
        refine lv_aload_n hx hb dX13_readHouse_94 rfl (lv_at hl 2 rfl) ?_
        refine m_ldcKw X 69 rfl dX13_readHouse_95 ?_
        refine t_cVv (n := 1) (C := RX13) (T := TX13) (N := 37) (As := [.ref (G.2 (100 + 69))]) (rest := []) X hT (km40_X13_needs l G tag L F hT.2.2.2 p0 69 x0 x1 x2 soz21089 spz21089 faz21089 m0 g0 (by decide) mx0 gx0 pf0 mx1 gx1 pf1 mx2 gx2 pf2 (by omega) qsoz21089 (by omega) qspz21089 (by omega) qfaz21089 hkf) m0 g0 rfl rfl qw_556 qw_557 qw_558 qw_5 qw_559 ⟨rfl, by decide +kernel, by decide +kernel, by decide +kernel⟩ ⟨Nat.le_of_ble_eq_true rfl, Nat.le_of_ble_eq_true rfl⟩ hl rfl rfl (Nat.le_of_ble_eq_true rfl) dX13_readHouse_98 ⟨Nat.le_of_ble_eq_true rfl, Nat.le_of_ble_eq_true rfl⟩ (fun F H locs hT hz21090 => ?_)
        obtain ⟨yz21090, ⟨soz21090, spz21090, faz21090, qsoz21090, qspz21090, qfaz21090, rsoz21090, rspz21090, rfaz21090, stz21090, ptz21090, hkf⟩⟩ := hz21090
        have pf0 := (yz21090.1 _ 4 (Or.inr (by decide)) (Or.inr (by decide)) (Or.inr (by decide)) (Or.inr (by decide)) (Or.inr (by decide)) (Or.inr (by decide)) (Or.inr (by decide)) (Or.inr (by decide))).trans pf0
        have pf1 := (yz21090.1 _ 28 (Or.inr (by decide)) (Or.inr (by decide)) (Or.inr (by decide)) (Or.inr (by decide)) (Or.inr (by decide)) (Or.inr (by decide)) (Or.inr (by decide)) (Or.inr (by decide))).trans pf1
        have pf2 := (yz21090.1 _ 29 (Or.inr (by decide)) (Or.inr (by decide)) (Or.inr (by decide)) (Or.inr (by decide)) (Or.inr (by decide)) (Or.inr (by decide)) (Or.inr (by decide)) (Or.inr (by decide))).trans pf2
        have pf6 := (yz21090.1 _ 12 (Or.inr (by decide)) (Or.inr (by decide)) (Or.inr (by decide)) (Or.inr (by decide)) (Or.inl (by rw [gx0]; decide)) (Or.inr (by decide)) (Or.inr (by decide)) (Or.inr (by decide))).trans pf6
        have pf7 := (yz21090.1 _ 7 (Or.inr (by decide)) (Or.inr (by decide)) (Or.inr (by decide)) (Or.inr (by decide)) (Or.inr (by decide)) (Or.inr (by decide)) (Or.inr (by decide)) (Or.inr (by decide))).trans pf7
        have pf8 := (yz21090.1 _ 8 (Or.inl (by rw [gx0]; decide)) (Or.inr (by decide)) (Or.inr (by decide)) (Or.inr (by decide)) (Or.inr (by decide)) (Or.inr (by decide)) (Or.inr (by decide)) (Or.inr (by decide))).trans pf8
        have pf9 := (yz21090.1 _ 9 (Or.inr (by decide)) (Or.inl (by rw [gx0]; decide)) (Or.inr (by decide)) (Or.inr (by decide)) (Or.inr (by decide)) (Or.inr (by decide)) (Or.inr (by decide)) (Or.inr (by decide))).trans pf9
        have pf10 := (yz21090.1 _ 10 (Or.inr (by decide)) (Or.inr (by decide)) (Or.inl (by rw [gx0]; decide)) (Or.inr (by decide)) (Or.inr (by decide)) (Or.inr (by decide)) (Or.inr (by decide)) (Or.inr (by decide))).trans pf10
        have pf11 := (yz21090.1 _ 0 (Or.inr (by decide)) (Or.inr (by decide)) (Or.inr (by decide)) (Or.inr (by decide)) (Or.inr (by decide)) (Or.inr (by decide)) (Or.inr (by decide)) (Or.inr (by decide))).trans pf11
        have hv21022 := (yz21090.1 _ 15 (Or.inr (by decide)) (Or.inr (by decide)) (Or.inr (by decide)) (Or.inr (by decide)) (Or.inr (by decide)) (Or.inr (by decide)) (Or.inr (by decide)) (Or.inl (by rw [gx0]; decide))).trans hv21022
        have vz21024 := (yz21090.2 _ _ ).trans vz21024
        have hv21040 := (yz21090.1 _ 30 (Or.inr (by decide)) (Or.inr (by decide)) (Or.inr (by decide)) (Or.inr (by decide)) (Or.inr (by decide)) (Or.inr (by decide)) (Or.inr (by decide)) (Or.inr (by decide))).trans hv21040
        have hfr : (∀ b j : Nat, (tag b ≠ 44 ∨ j ≠ 8) → (tag b ≠ 44 ∨ j ≠ 12) → (tag b ≠ 46 ∨ j ≠ 8) → (tag b ≠ 46 ∨ j ≠ 9) → (tag b ≠ 46 ∨ j ≠ 10) → (tag b ≠ 46 ∨ j ≠ 11) → (tag b ≠ 46 ∨ j ≠ 12) → (tag b ≠ 46 ∨ j ≠ 13) → (tag b ≠ 46 ∨ j ≠ 14) → (tag b ≠ 46 ∨ j ≠ 15) → fld F b j = fld Fo b j) ∧ (∀ b j : Nat, tag b ≠ 30 → tag b ≠ 31 → tag b ≠ 34 → tag b ≠ 35 → tag b ≠ 36 → tag b ≠ 37 → elm F b j = elm Fo b j) := ⟨fun b j n44_8 n44_12 n46_8 n46_9 n46_10 n46_11 n46_12 n46_13 n46_14 n46_15 => (yz21090.1 b j n46_8 n46_9 n46_10 n46_11 n46_12 n46_13 n46_14 n46_15).trans (hfr.1 b j n44_8 n44_12 n46_8 n46_9 n46_10 n46_11 n46_12 n46_13 n46_14 n46_15), fun b j a30 a31 a34 a35 a36 a37 => (yz21090.2 b j ).trans (hfr.2 b j a30 a31 a34 a35 a36 a37)⟩
        have hrel := msr_of (fun j => yz21090.2 _ j ) (fun j => yz21090.2 _ j ) hrel
        have hstk := STK.tr hstk stz21090
        have hspt := SPT.tr hspt ptz21090
        have k5z21090 : soz21090.toInt = 5 := stz21090 (by omega)
        refine lv_aload_n hx hb dX13_readHouse_101 rfl (lv_at hl 2 rfl) ?_
        refine lv_iconst (v := 0) hx hb dX13_readHouse_102 (by decide) ?_
        refine t_cVi (n := 1) (C := RX13) (T := TX13) (N := 37) (As := [.int 0]) (rest := []) X hT (km36_X13_readKnown l G tag L F hT.2.2.2 p0 0 x0 x1 x2 soz21090 spz21090 faz21090 m0 g0 (by decide) mx0 gx0 pf0 mx1 gx1 pf1 mx2 gx2 pf2 (by omega) qsoz21090 (by omega) qspz21090 (by omega) qfaz21090 hrel hkf) m0 g0 rfl rfl qw_632 qw_633 qw_634 qw_5 qw_635 ⟨rfl, by decide +kernel, by decide +kernel, by decide +kernel⟩ ⟨Nat.le_of_ble_eq_true rfl, Nat.le_of_ble_eq_true rfl⟩ hl rfl rfl (Nat.le_of_ble_eq_true rfl) dX13_readHouse_103 ⟨Nat.le_of_ble_eq_true rfl, Nat.le_of_ble_eq_true rfl⟩ (fun z21091 F H locs hT hz21091 => ?_)
        obtain ⟨hz21091, yz21091, hrel, ⟨soz21091, spz21091, faz21091, qsoz21091, qspz21091, qfaz21091, rsoz21091, rspz21091, rfaz21091, stz21091, ptz21091, hkf⟩⟩ := hz21091
        have pf0 := (yz21091.1 _ 4 (Or.inr (by decide)) (Or.inr (by decide)) (Or.inr (by decide)) (Or.inr (by decide)) (Or.inr (by decide)) (Or.inr (by decide)) (Or.inr (by decide)) (Or.inr (by decide))).trans pf0
        have pf1 := (yz21091.1 _ 28 (Or.inr (by decide)) (Or.inr (by decide)) (Or.inr (by decide)) (Or.inr (by decide)) (Or.inr (by decide)) (Or.inr (by decide)) (Or.inr (by decide)) (Or.inr (by decide))).trans pf1
        have pf2 := (yz21091.1 _ 29 (Or.inr (by decide)) (Or.inr (by decide)) (Or.inr (by decide)) (Or.inr (by decide)) (Or.inr (by decide)) (Or.inr (by decide)) (Or.inr (by decide)) (Or.inr (by decide))).trans pf2
        have pf6 := (yz21091.1 _ 12 (Or.inr (by decide)) (Or.inr (by decide)) (Or.inr (by decide)) (Or.inr (by decide)) (Or.inl (by rw [gx0]; decide)) (Or.inr (by decide)) (Or.inr (by decide)) (Or.inr (by decide))).trans pf6
        have pf7 := (yz21091.1 _ 7 (Or.inr (by decide)) (Or.inr (by decide)) (Or.inr (by decide)) (Or.inr (by decide)) (Or.inr (by decide)) (Or.inr (by decide)) (Or.inr (by decide)) (Or.inr (by decide))).trans pf7
        have pf8 := (yz21091.1 _ 8 (Or.inl (by rw [gx0]; decide)) (Or.inr (by decide)) (Or.inr (by decide)) (Or.inr (by decide)) (Or.inr (by decide)) (Or.inr (by decide)) (Or.inr (by decide)) (Or.inr (by decide))).trans pf8
        have pf9 := (yz21091.1 _ 9 (Or.inr (by decide)) (Or.inl (by rw [gx0]; decide)) (Or.inr (by decide)) (Or.inr (by decide)) (Or.inr (by decide)) (Or.inr (by decide)) (Or.inr (by decide)) (Or.inr (by decide))).trans pf9
        have pf10 := (yz21091.1 _ 10 (Or.inr (by decide)) (Or.inr (by decide)) (Or.inl (by rw [gx0]; decide)) (Or.inr (by decide)) (Or.inr (by decide)) (Or.inr (by decide)) (Or.inr (by decide)) (Or.inr (by decide))).trans pf10
        have pf11 := (yz21091.1 _ 0 (Or.inr (by decide)) (Or.inr (by decide)) (Or.inr (by decide)) (Or.inr (by decide)) (Or.inr (by decide)) (Or.inr (by decide)) (Or.inr (by decide)) (Or.inr (by decide))).trans pf11
        have hv21022 := (yz21091.1 _ 15 (Or.inr (by decide)) (Or.inr (by decide)) (Or.inr (by decide)) (Or.inr (by decide)) (Or.inr (by decide)) (Or.inr (by decide)) (Or.inr (by decide)) (Or.inl (by rw [gx0]; decide))).trans hv21022
        have vz21024 := (yz21091.2 _ _ ).trans vz21024
        have hv21040 := (yz21091.1 _ 30 (Or.inr (by decide)) (Or.inr (by decide)) (Or.inr (by decide)) (Or.inr (by decide)) (Or.inr (by decide)) (Or.inr (by decide)) (Or.inr (by decide)) (Or.inr (by decide))).trans hv21040
        have hfr : (∀ b j : Nat, (tag b ≠ 44 ∨ j ≠ 8) → (tag b ≠ 44 ∨ j ≠ 12) → (tag b ≠ 46 ∨ j ≠ 8) → (tag b ≠ 46 ∨ j ≠ 9) → (tag b ≠ 46 ∨ j ≠ 10) → (tag b ≠ 46 ∨ j ≠ 11) → (tag b ≠ 46 ∨ j ≠ 12) → (tag b ≠ 46 ∨ j ≠ 13) → (tag b ≠ 46 ∨ j ≠ 14) → (tag b ≠ 46 ∨ j ≠ 15) → fld F b j = fld Fo b j) ∧ (∀ b j : Nat, tag b ≠ 30 → tag b ≠ 31 → tag b ≠ 34 → tag b ≠ 35 → tag b ≠ 36 → tag b ≠ 37 → elm F b j = elm Fo b j) := ⟨fun b j n44_8 n44_12 n46_8 n46_9 n46_10 n46_11 n46_12 n46_13 n46_14 n46_15 => (yz21091.1 b j n46_8 n46_9 n46_10 n46_11 n46_12 n46_13 n46_14 n46_15).trans (hfr.1 b j n44_8 n44_12 n46_8 n46_9 n46_10 n46_11 n46_12 n46_13 n46_14 n46_15), fun b j a30 a31 a34 a35 a36 a37 => (yz21091.2 b j ).trans (hfr.2 b j a30 a31 a34 a35 a36 a37)⟩
        have hstk := STK.tr hstk stz21091
        have hspt := SPT.tr hspt ptz21091
        have k5z21091 : soz21091.toInt = 5 := stz21091 (by omega)
        refine lv_istore (lv' := [(4, .int z21091), (3, .int z21005), (1, .long z21003), (0, .ref p0)]) hx hb dX13_readHouse_106 hl (by decide) rfl (fun ls hl => ?_)
        refine lv_aload_n hx hb dX13_readHouse_108 rfl (lv_at hl 3 rfl) ?_
        refine m_ldcKw X 70 rfl dX13_readHouse_109 ?_
        refine lv_iconst (v := 0) hx hb dX13_readHouse_112 (by decide) ?_
        refine lv_bipush (v := 99) hx hb dX13_readHouse_113 (by decide) ?_
        refine t_cVi (n := 3) (C := RX13) (T := TX13) (N := 37) (As := [.ref (G.2 (100 + 70)), .int 0, .int 99]) (rest := []) X hT (km43_X13_readPart l G tag L F hT.2.2.2 p0 70 0 99 x0 x1 x2 soz21091 spz21091 faz21091 m0 g0 (by decide) (by decide) (by decide) mx0 gx0 pf0 mx1 gx1 pf1 mx2 gx2 pf2 (by omega) qsoz21091 (by omega) qspz21091 (by omega) qfaz21091 hkf) m0 g0 rfl rfl qw_552 qw_553 qw_554 qw_5 qw_555 ⟨rfl, by decide +kernel, by decide +kernel, by decide +kernel⟩ ⟨Nat.le_of_ble_eq_true rfl, Nat.le_of_ble_eq_true rfl⟩ hl rfl rfl (Nat.le_of_ble_eq_true rfl) dX13_readHouse_115 ⟨Nat.le_of_ble_eq_true rfl, Nat.le_of_ble_eq_true rfl⟩ (fun z21092 F H locs hT hz21092 => ?_)
        obtain ⟨hz21092, yz21092, ⟨soz21092, spz21092, faz21092, qsoz21092, qspz21092, qfaz21092, rsoz21092, rspz21092, rfaz21092, stz21092, ptz21092, hkf⟩⟩ := hz21092
        have pf0 := (yz21092.1 _ 4 (Or.inr (by decide)) (Or.inr (by decide)) (Or.inr (by decide)) (Or.inr (by decide)) (Or.inr (by decide)) (Or.inr (by decide)) (Or.inr (by decide)) (Or.inr (by decide))).trans pf0
        have pf1 := (yz21092.1 _ 28 (Or.inr (by decide)) (Or.inr (by decide)) (Or.inr (by decide)) (Or.inr (by decide)) (Or.inr (by decide)) (Or.inr (by decide)) (Or.inr (by decide)) (Or.inr (by decide))).trans pf1
        have pf2 := (yz21092.1 _ 29 (Or.inr (by decide)) (Or.inr (by decide)) (Or.inr (by decide)) (Or.inr (by decide)) (Or.inr (by decide)) (Or.inr (by decide)) (Or.inr (by decide)) (Or.inr (by decide))).trans pf2
        have pf6 := (yz21092.1 _ 12 (Or.inr (by decide)) (Or.inr (by decide)) (Or.inr (by decide)) (Or.inr (by decide)) (Or.inl (by rw [gx0]; decide)) (Or.inr (by decide)) (Or.inr (by decide)) (Or.inr (by decide))).trans pf6
        have pf7 := (yz21092.1 _ 7 (Or.inr (by decide)) (Or.inr (by decide)) (Or.inr (by decide)) (Or.inr (by decide)) (Or.inr (by decide)) (Or.inr (by decide)) (Or.inr (by decide)) (Or.inr (by decide))).trans pf7
        have pf8 := (yz21092.1 _ 8 (Or.inl (by rw [gx0]; decide)) (Or.inr (by decide)) (Or.inr (by decide)) (Or.inr (by decide)) (Or.inr (by decide)) (Or.inr (by decide)) (Or.inr (by decide)) (Or.inr (by decide))).trans pf8
        have pf9 := (yz21092.1 _ 9 (Or.inr (by decide)) (Or.inl (by rw [gx0]; decide)) (Or.inr (by decide)) (Or.inr (by decide)) (Or.inr (by decide)) (Or.inr (by decide)) (Or.inr (by decide)) (Or.inr (by decide))).trans pf9
        have pf10 := (yz21092.1 _ 10 (Or.inr (by decide)) (Or.inr (by decide)) (Or.inl (by rw [gx0]; decide)) (Or.inr (by decide)) (Or.inr (by decide)) (Or.inr (by decide)) (Or.inr (by decide)) (Or.inr (by decide))).trans pf10
        have pf11 := (yz21092.1 _ 0 (Or.inr (by decide)) (Or.inr (by decide)) (Or.inr (by decide)) (Or.inr (by decide)) (Or.inr (by decide)) (Or.inr (by decide)) (Or.inr (by decide)) (Or.inr (by decide))).trans pf11
        have hv21022 := (yz21092.1 _ 15 (Or.inr (by decide)) (Or.inr (by decide)) (Or.inr (by decide)) (Or.inr (by decide)) (Or.inr (by decide)) (Or.inr (by decide)) (Or.inr (by decide)) (Or.inl (by rw [gx0]; decide))).trans hv21022
        have vz21024 := (yz21092.2 _ _ ).trans vz21024
        have hv21040 := (yz21092.1 _ 30 (Or.inr (by decide)) (Or.inr (by decide)) (Or.inr (by decide)) (Or.inr (by decide)) (Or.inr (by decide)) (Or.inr (by decide)) (Or.inr (by decide)) (Or.inr (by decide))).trans hv21040
        have hfr : (∀ b j : Nat, (tag b ≠ 44 ∨ j ≠ 8) → (tag b ≠ 44 ∨ j ≠ 12) → (tag b ≠ 46 ∨ j ≠ 8) → (tag b ≠ 46 ∨ j ≠ 9) → (tag b ≠ 46 ∨ j ≠ 10) → (tag b ≠ 46 ∨ j ≠ 11) → (tag b ≠ 46 ∨ j ≠ 12) → (tag b ≠ 46 ∨ j ≠ 13) → (tag b ≠ 46 ∨ j ≠ 14) → (tag b ≠ 46 ∨ j ≠ 15) → fld F b j = fld Fo b j) ∧ (∀ b j : Nat, tag b ≠ 30 → tag b ≠ 31 → tag b ≠ 34 → tag b ≠ 35 → tag b ≠ 36 → tag b ≠ 37 → elm F b j = elm Fo b j) := ⟨fun b j n44_8 n44_12 n46_8 n46_9 n46_10 n46_11 n46_12 n46_13 n46_14 n46_15 => (yz21092.1 b j n46_8 n46_9 n46_10 n46_11 n46_12 n46_13 n46_14 n46_15).trans (hfr.1 b j n44_8 n44_12 n46_8 n46_9 n46_10 n46_11 n46_12 n46_13 n46_14 n46_15), fun b j a30 a31 a34 a35 a36 a37 => (yz21092.2 b j ).trans (hfr.2 b j a30 a31 a34 a35 a36 a37)⟩
        have hrel := msr_of (fun j => yz21092.2 _ j ) (fun j => yz21092.2 _ j ) hrel
        have hstk := STK.tr hstk stz21092
        have hspt := SPT.tr hspt ptz21092
        have k5z21092 : soz21092.toInt = 5 := stz21092 (by omega)
        refine lv_istore (lv' := [(5, .int z21092), (4, .int z21091), (3, .int z21005), (1, .long z21003), (0, .ref p0)]) hx hb dX13_readHouse_118 hl (by decide) rfl (fun ls hl => ?_)
        refine lv_aload_n hx hb dX13_readHouse_120 rfl (lv_at hl 4 rfl) ?_
        refine m_ldcKw X 71 rfl dX13_readHouse_121 ?_
        refine lv_iconst (v := 0) hx hb dX13_readHouse_124 (by decide) ?_
        refine lv_sipush (v := 999) hx hb dX13_readHouse_125 (by decide) ?_
        refine t_cVi (n := 3) (C := RX13) (T := TX13) (N := 37) (As := [.ref (G.2 (100 + 71)), .int 0, .int 999]) (rest := []) X hT (km56_X13_readPart l G tag L F hT.2.2.2 p0 71 0 999 x0 x1 x2 soz21092 spz21092 faz21092 m0 g0 (by decide) (by decide) (by decide) mx0 gx0 pf0 mx1 gx1 pf1 mx2 gx2 pf2 (by omega) qsoz21092 (by omega) qspz21092 (by omega) qfaz21092 hkf) m0 g0 rfl rfl qw_552 qw_553 qw_554 qw_5 qw_555 ⟨rfl, by decide +kernel, by decide +kernel, by decide +kernel⟩ ⟨Nat.le_of_ble_eq_true rfl, Nat.le_of_ble_eq_true rfl⟩ hl rfl rfl (Nat.le_of_ble_eq_true rfl) dX13_readHouse_128 ⟨Nat.le_of_ble_eq_true rfl, Nat.le_of_ble_eq_true rfl⟩ (fun z21093 F H locs hT hz21093 => ?_)
        obtain ⟨hz21093, yz21093, ⟨soz21093, spz21093, faz21093, qsoz21093, qspz21093, qfaz21093, rsoz21093, rspz21093, rfaz21093, stz21093, ptz21093, hkf⟩⟩ := hz21093
        have pf0 := (yz21093.1 _ 4 (Or.inr (by decide)) (Or.inr (by decide)) (Or.inr (by decide)) (Or.inr (by decide)) (Or.inr (by decide)) (Or.inr (by decide)) (Or.inr (by decide)) (Or.inr (by decide))).trans pf0
        have pf1 := (yz21093.1 _ 28 (Or.inr (by decide)) (Or.inr (by decide)) (Or.inr (by decide)) (Or.inr (by decide)) (Or.inr (by decide)) (Or.inr (by decide)) (Or.inr (by decide)) (Or.inr (by decide))).trans pf1
        have pf2 := (yz21093.1 _ 29 (Or.inr (by decide)) (Or.inr (by decide)) (Or.inr (by decide)) (Or.inr (by decide)) (Or.inr (by decide)) (Or.inr (by decide)) (Or.inr (by decide)) (Or.inr (by decide))).trans pf2
        have pf6 := (yz21093.1 _ 12 (Or.inr (by decide)) (Or.inr (by decide)) (Or.inr (by decide)) (Or.inr (by decide)) (Or.inl (by rw [gx0]; decide)) (Or.inr (by decide)) (Or.inr (by decide)) (Or.inr (by decide))).trans pf6
        have pf7 := (yz21093.1 _ 7 (Or.inr (by decide)) (Or.inr (by decide)) (Or.inr (by decide)) (Or.inr (by decide)) (Or.inr (by decide)) (Or.inr (by decide)) (Or.inr (by decide)) (Or.inr (by decide))).trans pf7
        have pf8 := (yz21093.1 _ 8 (Or.inl (by rw [gx0]; decide)) (Or.inr (by decide)) (Or.inr (by decide)) (Or.inr (by decide)) (Or.inr (by decide)) (Or.inr (by decide)) (Or.inr (by decide)) (Or.inr (by decide))).trans pf8
        have pf9 := (yz21093.1 _ 9 (Or.inr (by decide)) (Or.inl (by rw [gx0]; decide)) (Or.inr (by decide)) (Or.inr (by decide)) (Or.inr (by decide)) (Or.inr (by decide)) (Or.inr (by decide)) (Or.inr (by decide))).trans pf9
        have pf10 := (yz21093.1 _ 10 (Or.inr (by decide)) (Or.inr (by decide)) (Or.inl (by rw [gx0]; decide)) (Or.inr (by decide)) (Or.inr (by decide)) (Or.inr (by decide)) (Or.inr (by decide)) (Or.inr (by decide))).trans pf10
        have pf11 := (yz21093.1 _ 0 (Or.inr (by decide)) (Or.inr (by decide)) (Or.inr (by decide)) (Or.inr (by decide)) (Or.inr (by decide)) (Or.inr (by decide)) (Or.inr (by decide)) (Or.inr (by decide))).trans pf11
        have hv21022 := (yz21093.1 _ 15 (Or.inr (by decide)) (Or.inr (by decide)) (Or.inr (by decide)) (Or.inr (by decide)) (Or.inr (by decide)) (Or.inr (by decide)) (Or.inr (by decide)) (Or.inl (by rw [gx0]; decide))).trans hv21022
        have vz21024 := (yz21093.2 _ _ ).trans vz21024
        have hv21040 := (yz21093.1 _ 30 (Or.inr (by decide)) (Or.inr (by decide)) (Or.inr (by decide)) (Or.inr (by decide)) (Or.inr (by decide)) (Or.inr (by decide)) (Or.inr (by decide)) (Or.inr (by decide))).trans hv21040
        have hfr : (∀ b j : Nat, (tag b ≠ 44 ∨ j ≠ 8) → (tag b ≠ 44 ∨ j ≠ 12) → (tag b ≠ 46 ∨ j ≠ 8) → (tag b ≠ 46 ∨ j ≠ 9) → (tag b ≠ 46 ∨ j ≠ 10) → (tag b ≠ 46 ∨ j ≠ 11) → (tag b ≠ 46 ∨ j ≠ 12) → (tag b ≠ 46 ∨ j ≠ 13) → (tag b ≠ 46 ∨ j ≠ 14) → (tag b ≠ 46 ∨ j ≠ 15) → fld F b j = fld Fo b j) ∧ (∀ b j : Nat, tag b ≠ 30 → tag b ≠ 31 → tag b ≠ 34 → tag b ≠ 35 → tag b ≠ 36 → tag b ≠ 37 → elm F b j = elm Fo b j) := ⟨fun b j n44_8 n44_12 n46_8 n46_9 n46_10 n46_11 n46_12 n46_13 n46_14 n46_15 => (yz21093.1 b j n46_8 n46_9 n46_10 n46_11 n46_12 n46_13 n46_14 n46_15).trans (hfr.1 b j n44_8 n44_12 n46_8 n46_9 n46_10 n46_11 n46_12 n46_13 n46_14 n46_15), fun b j a30 a31 a34 a35 a36 a37 => (yz21093.2 b j ).trans (hfr.2 b j a30 a31 a34 a35 a36 a37)⟩
        have hrel := msr_of (fun j => yz21093.2 _ j ) (fun j => yz21093.2 _ j ) hrel
        have hstk := STK.tr hstk stz21093
        have hspt := SPT.tr hspt ptz21093
        have k5z21093 : soz21093.toInt = 5 := stz21093 (by omega)
        refine lv_istore (lv' := [(6, .int z21093), (5, .int z21092), (4, .int z21091), (3, .int z21005), (1, .long z21003), (0, .ref p0)]) hx hb dX13_readHouse_131 hl (by decide) rfl (fun ls hl => ?_)
        refine lv_aload_n hx hb dX13_readHouse_133 rfl (lv_at hl 5 rfl) ?_
        refine t_get (C := RX13) (T := TX13) (N := 37) X hT m0 g0 rfl rfl 9 (by decide) qw_478 inlX13 rfl dX13_readHouse_134 (fun v21094 hv21094 ov21094 => ?_)
        obtain rfl : v21094 = .int soz21093 := hv21094.symm.trans qsoz21093
        refine lv_iconst (v := 5) hx hb dX13_readHouse_137 (by decide) ?_
        refine lv_icmp_ne (tgt := 142) hx hb dX13_readHouse_138 (by decide) (fun c21095 => ?_) (fun c21095 => ?_)
        · have w21096 := cv_ne (rfl : soz21093.toInt = soz21093.toInt) (by decide : (5 : Int32).toInt = 5) c21095
          exfalso
          omega
        · have w21097 := cv_eq (rfl : soz21093.toInt = soz21093.toInt) (by decide : (5 : Int32).toInt = 5) c21095
          exact t_vret hQ X hT ⟨hfr, hrel, ⟨soz21093, spz21093, faz21093, qsoz21093, qspz21093, qfaz21093, (by omega), (by omega), (by omega), hstk, hspt, hkf⟩, ⟨x6, x7, x8, x9, x10, x11, pf6, pf7, pf8, pf9, pf10, pf11, (by omega), (by omega), (by omega), (by omega), (by omega), (by omega), hpl⟩⟩ (Nat.le_of_ble_eq_true rfl) (Nat.le_of_ble_eq_true rfl) dX13_readHouse_141
