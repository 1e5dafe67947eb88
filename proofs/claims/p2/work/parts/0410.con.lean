set_option maxHeartbeats 4000000 in
set_option maxRecDepth 100000 in
theorem km59_X13_readHouse (l : Launch) (G : KG) (tag : Nat → Nat) (L : List Nat) (Fo : Nat → va_E) (ho : okT G ttC tag L Fo) (p0 : Nat) (x0 : Nat) (x1 : Nat) (x2 : Nat) (x3 : Int32) (x4 : Int32) (x5 : Int32) (x6 : Int32) (x7 : Int32) (x8 : Int32) (x9 : Int32) (x10 : Int32) (x11 : Int32) (m0 : p0 ∈ L) (g0 : tag p0 = 46) (mx0 : x0 ∈ L) (gx0 : tag x0 = 44) (pf0 : fld Fo p0 4 = .ref x0) (mx1 : x1 ∈ L) (gx1 : tag x1 = 35) (pf1 : fld Fo x0 28 = .ref x1) (mx2 : x2 ∈ L) (gx2 : tag x2 = 36) (pf2 : fld Fo x0 29 = .ref x2) (hx3 : 0 ≤ x3.toInt ∧ x3.toInt ≤ 5) (pf3 : fld Fo p0 9 = .int x3) (hx4 : 0 ≤ x4.toInt ∧ x4.toInt ≤ 1000) (pf4 : fld Fo p0 8 = .int x4) (hx5 : 0 ≤ x5.toInt ∧ x5.toInt ≤ 7) (pf5 : fld Fo p0 13 = .int x5) (hx6 : 0 ≤ x6.toInt ∧ x6.toInt ≤ 32) (pf6 : fld Fo x0 12 = .int x6) (hx7 : 0 ≤ x7.toInt ∧ x7.toInt ≤ 4) (pf7 : fld Fo x0 7 = .int x7) (hx8 : 0 ≤ x8.toInt ∧ x8.toInt ≤ 4) (pf8 : fld Fo x0 8 = .int x8) (hx9 : 0 ≤ x9.toInt ∧ x9.toInt ≤ 6) (pf9 : fld Fo x0 9 = .int x9) (hx10 : 0 ≤ x10.toInt ∧ x10.toInt ≤ 6) (pf10 : fld Fo x0 10 = .int x10) (hx11 : 0 ≤ x11.toInt ∧ x11.toInt ≤ 12) (pf11 : fld Fo x0 0 = .int x11) (hrel : MSR Fo x1 x2) (hkf : KF x3 x5) (hpl : PLr x6 x7 x8 x9 x10 x11) : TMv l yX13_readHouse cX13_readHouse 8 { frames := 9, cells := 0, slots := 0, locals := 193 } G ttC tag L Fo [.ref p0] (fun F1 => ((∀ b j : Nat, (tag b ≠ 44 ∨ j ≠ 8) → (tag b ≠ 44 ∨ j ≠ 12) → (tag b ≠ 46 ∨ j ≠ 8) → (tag b ≠ 46 ∨ j ≠ 9) → (tag b ≠ 46 ∨ j ≠ 10) → (tag b ≠ 46 ∨ j ≠ 11) → (tag b ≠ 46 ∨ j ≠ 12) → (tag b ≠ 46 ∨ j ≠ 13) → (tag b ≠ 46 ∨ j ≠ 14) → (tag b ≠ 46 ∨ j ≠ 15) → fld F1 b j = fld Fo b j) ∧ (∀ b j : Nat, tag b ≠ 30 → tag b ≠ 31 → tag b ≠ 34 → tag b ≠ 35 → tag b ≠ 36 → tag b ≠ 37 → elm F1 b j = elm Fo b j)) ∧ (MSR F1 x1 x2) ∧ (∃ so sp fa : Int32, fld F1 p0 9 = .int so ∧ fld F1 p0 8 = .int sp ∧ fld F1 p0 13 = .int fa ∧ (0 ≤ so.toInt ∧ so.toInt ≤ 5) ∧ (0 ≤ sp.toInt ∧ sp.toInt ≤ 1000) ∧ (0 ≤ fa.toInt ∧ fa.toInt ≤ 7) ∧ STK x3 so ∧ SPT x3 x4 so sp ∧ KF so fa) ∧ (∃ na st ho he wa wi : Int32, fld F1 x0 12 = .int na ∧ fld F1 x0 7 = .int st ∧ fld F1 x0 8 = .int ho ∧ fld F1 x0 9 = .int he ∧ fld F1 x0 10 = .int wa ∧ fld F1 x0 0 = .int wi ∧ (0 ≤ na.toInt ∧ na.toInt ≤ 32) ∧ (0 ≤ st.toInt ∧ st.toInt ≤ 4) ∧ (0 ≤ ho.toInt ∧ ho.toInt ≤ 4) ∧ (0 ≤ he.toInt ∧ he.toInt ≤ 6) ∧ (0 ≤ wa.toInt ∧ wa.toInt ≤ 6) ∧ (0 ≤ wi.toInt ∧ wi.toInt ≤ 12) ∧ PLr na st ho he wa wi)) := by
  refine t_bodyv (y := yX13_readHouse) (cd := cX13_readHouse) (mL := 8) (rm := { frames := 9, cells := 0, slots := 0, locals := 193 }) (av := [.ref p0]) (by decide) (Nat.le_of_ble_eq_true rfl) ho ?_
  intro p e s m args below meth c ls A Q hQ X hT hl
  have hx := X.1.1
  have hb := X.1.2.1
  have hl : lv_has ls 8 [(0, .ref p0)] := hl
  obtain ⟨F, hFo⟩ : ∃ F : Nat → va_E, F = Fo := ⟨_, rfl⟩
  rw [← hFo] at hT pf0 pf1 pf2 pf3 pf4 pf5 pf6 pf7 pf8 pf9 pf10 pf11 hrel
  have hfr : (∀ b j : Nat, (tag b ≠ 44 ∨ j ≠ 8) → (tag b ≠ 44 ∨ j ≠ 12) → (tag b ≠ 46 ∨ j ≠ 8) → (tag b ≠ 46 ∨ j ≠ 9) → (tag b ≠ 46 ∨ j ≠ 10) → (tag b ≠ 46 ∨ j ≠ 11) → (tag b ≠ 46 ∨ j ≠ 12) → (tag b ≠ 46 ∨ j ≠ 13) → (tag b ≠ 46 ∨ j ≠ 14) → (tag b ≠ 46 ∨ j ≠ 15) → fld F b j = fld Fo b j) ∧ (∀ b j : Nat, tag b ≠ 30 → tag b ≠ 31 → tag b ≠ 34 → tag b ≠ 35 → tag b ≠ 36 → tag b ≠ 37 → elm F b j = elm Fo b j) := by
    rw [hFo]
    exact ⟨by intros; rfl, by intros; rfl⟩
  have hstk : STK x3 x3 := STK.rf
  have hspt : SPT x3 x4 x3 x4 := SPT.rf
  have hpu := hpl
  unfold PLr at hpu
  refine lv_aload_n hx hb dX13_readHouse_0 rfl (lv_at hl 0 rfl) ?_
  refine lv_aload_n hx hb dX13_readHouse_1 rfl (lv_at hl 0 rfl) ?_
  refine t_get (C := RX13) (T := TX13) (N := 37) X hT m0 g0 rfl rfl 4 (by decide) qw_477 inlX13 rfl dX13_readHouse_2 (fun v21176 hv21176 ov21176 => ?_)
  obtain rfl : v21176 = .ref x0 := hv21176.symm.trans pf0
  refine t_getN (C := RX12) (T := TX12) (N := 31) X hT mx0 gx0 rfl rfl 8 (by decide) (List.mem_of_getElem? (i := 12) rfl) inlX12 rfl dX13_readHouse_5 (fun v21177 hv21177 ov21177 => ?_)
  obtain rfl : v21177 = .int x8 := hv21177.symm.trans pf8
  refine lv_iconst (v := 4) hx hb dX13_readHouse_8 (by decide) ?_
  refine t_cVv (n := 2) (C := RX13) (T := TX13) (N := 37) (As := [.int x8, .int 4]) (rest := []) X hT (km15_X13_begins l G tag L F hT.2.2.2 p0 x8 4 x0 x1 x2 x3 x4 x5 x11 m0 g0 mx0 gx0 pf0 mx1 gx1 pf1 mx2 gx2 pf2 (by omega) pf3 (by omega) pf4 (by omega) pf5 (by omega) pf11 hkf) m0 g0 rfl rfl qw_575 qw_576 qw_577 qw_5 qw_578 ⟨rfl, by decide +kernel, by decide +kernel, by decide +kernel⟩ ⟨Nat.le_of_ble_eq_true rfl, Nat.le_of_ble_eq_true rfl⟩ hl rfl rfl (Nat.le_of_ble_eq_true rfl) dX13_readHouse_9 ⟨Nat.le_of_ble_eq_true rfl, Nat.le_of_ble_eq_true rfl⟩ (fun F H locs hT hz21178 => ?_)
  obtain ⟨yz21178, ⟨soz21178, spz21178, faz21178, qsoz21178, qspz21178, qfaz21178, rsoz21178, rspz21178, rfaz21178, stz21178, ptz21178, hkf, pxz21178_0⟩⟩ := hz21178
  have pf0 := (yz21178.1 _ 4 (Or.inr (by decide)) (Or.inr (by decide)) (Or.inr (by decide)) (Or.inr (by decide)) (Or.inr (by decide)) (Or.inr (by decide)) (Or.inr (by decide)) (Or.inr (by decide))).trans pf0
  have pf1 := (yz21178.1 _ 28 (Or.inr (by decide)) (Or.inr (by decide)) (Or.inr (by decide)) (Or.inr (by decide)) (Or.inr (by decide)) (Or.inr (by decide)) (Or.inr (by decide)) (Or.inr (by decide))).trans pf1
  have pf2 := (yz21178.1 _ 29 (Or.inr (by decide)) (Or.inr (by decide)) (Or.inr (by decide)) (Or.inr (by decide)) (Or.inr (by decide)) (Or.inr (by decide)) (Or.inr (by decide)) (Or.inr (by decide))).trans pf2
  have pf6 := (yz21178.1 _ 12 (Or.inr (by decide)) (Or.inr (by decide)) (Or.inr (by decide)) (Or.inr (by decide)) (Or.inl (by rw [gx0]; decide)) (Or.inr (by decide)) (Or.inr (by decide)) (Or.inr (by decide))).trans pf6
  have pf7 := (yz21178.1 _ 7 (Or.inr (by decide)) (Or.inr (by decide)) (Or.inr (by decide)) (Or.inr (by decide)) (Or.inr (by decide)) (Or.inr (by decide)) (Or.inr (by decide)) (Or.inr (by decide))).trans pf7
  have pf8 := (yz21178.1 _ 8 (Or.inl (by rw [gx0]; decide)) (Or.inr (by decide)) (Or.inr (by decide)) (Or.inr (by decide)) (Or.inr (by decide)) (Or.inr (by decide)) (Or.inr (by decide)) (Or.inr (by decide))).trans pf8
  have pf9 := (yz21178.1 _ 9 (Or.inr (by decide)) (Or.inl (by rw [gx0]; decide)) (Or.inr (by decide)) (Or.inr (by decide)) (Or.inr (by decide)) (Or.inr (by decide)) (Or.inr (by decide)) (Or.inr (by decide))).trans pf9
  have pf10 := (yz21178.1 _ 10 (Or.inr (by decide)) (Or.inr (by decide)) (Or.inl (by rw [gx0]; decide)) (Or.inr (by decide)) (Or.inr (by decide)) (Or.inr (by decide)) (Or.inr (by decide)) (Or.inr (by decide))).trans pf10
  have pf11 := (yz21178.1 _ 0 (Or.inr (by decide)) (Or.inr (by decide)) (Or.inr (by decide)) (Or.inr (by decide)) (Or.inr (by decide)) (Or.inr (by decide)) (Or.inr (by decide)) (Or.inr (by decide))).trans pf11
  have hfr : (∀ b j : Nat, (tag b ≠ 44 ∨ j ≠ 8) → (tag b ≠ 44 ∨ j ≠ 12) → (tag b ≠ 46 ∨ j ≠ 8) → (tag b ≠ 46 ∨ j ≠ 9) → (tag b ≠ 46 ∨ j ≠ 10) → (tag b ≠ 46 ∨ j ≠ 11) → (tag b ≠ 46 ∨ j ≠ 12) → (tag b ≠ 46 ∨ j ≠ 13) → (tag b ≠ 46 ∨ j ≠ 14) → (tag b ≠ 46 ∨ j ≠ 15) → fld F b j = fld Fo b j) ∧ (∀ b j : Nat, tag b ≠ 30 → tag b ≠ 31 → tag b ≠ 34 → tag b ≠ 35 → tag b ≠ 36 → tag b ≠ 37 → elm F b j = elm Fo b j) := ⟨fun b j n44_8 n44_12 n46_8 n46_9 n46_10 n46_11 n46_12 n46_13 n46_14 n46_15 => (yz21178.1 b j n46_8 n46_9 n46_10 n46_11 n46_12 n46_13 n46_14 n46_15).trans (hfr.1 b j n44_8 n44_12 n46_8 n46_9 n46_10 n46_11 n46_12 n46_13 n46_14 n46_15), fun b j a30 a31 a34 a35 a36 a37 => (yz21178.2 b j ).trans (hfr.2 b j a30 a31 a34 a35 a36 a37)⟩
  have hrel := msr_of (fun j => yz21178.2 _ j ) (fun j => yz21178.2 _ j ) hrel
  have hstk := STK.tr hstk stz21178
  have hspt := SPT.tr hspt ptz21178
  have k21179 : (4 : Int32).toInt = 4 := by decide
  refine lv_aload_n hx hb dX13_readHouse_12 rfl (lv_at hl 0 rfl) ?_
  refine t_cVl (n := 0) (C := RX13) (T := TX13) (N := 37) (As := []) (rest := []) X hT (km26_X13_readFresh l G tag L F hT.2.2.2 p0 x0 x1 x2 soz21178 spz21178 faz21178 m0 g0 mx0 gx0 pf0 mx1 gx1 pf1 mx2 gx2 pf2 (by omega) qsoz21178 (by omega) qspz21178 (by omega) qfaz21178 hkf) m0 g0 rfl rfl qw_595 qw_596 qw_597 qw_5 qw_598 ⟨rfl, by decide +kernel, by decide +kernel, by decide +kernel⟩ ⟨Nat.le_of_ble_eq_true rfl, Nat.le_of_ble_eq_true rfl⟩ hl rfl rfl (Nat.le_of_ble_eq_true rfl) dX13_readHouse_13 ⟨Nat.le_of_ble_eq_true rfl, Nat.le_of_ble_eq_true rfl⟩ (fun z21180 F H locs hT hz21180 => ?_)
  obtain ⟨yz21180, ⟨soz21180, spz21180, faz21180, qsoz21180, qspz21180, qfaz21180, rsoz21180, rspz21180, rfaz21180, stz21180, ptz21180, hkf⟩⟩ := hz21180
  have pf0 := (yz21180.1 _ 4 (Or.inr (by decide)) (Or.inr (by decide)) (Or.inr (by decide)) (Or.inr (by decide)) (Or.inr (by decide)) (Or.inr (by decide)) (Or.inr (by decide)) (Or.inr (by decide))).trans pf0
  have pf1 := (yz21180.1 _ 28 (Or.inr (by decide)) (Or.inr (by decide)) (Or.inr (by decide)) (Or.inr (by decide)) (Or.inr (by decide)) (Or.inr (by decide)) (Or.inr (by decide)) (Or.inr (by decide))).trans pf1
  have pf2 := (yz21180.1 _ 29 (Or.inr (by decide)) (Or.inr (by decide)) (Or.inr (by decide)) (Or.inr (by decide)) (Or.inr (by decide)) (Or.inr (by decide)) (Or.inr (by decide)) (Or.inr (by decide))).trans pf2
  have pf6 := (yz21180.1 _ 12 (Or.inr (by decide)) (Or.inr (by decide)) (Or.inr (by decide)) (Or.inr (by decide)) (Or.inl (by rw [gx0]; decide)) (Or.inr (by decide)) (Or.inr (by decide)) (Or.inr (by decide))).trans pf6
  have pf7 := (yz21180.1 _ 7 (Or.inr (by decide)) (Or.inr (by decide)) (Or.inr (by decide)) (Or.inr (by decide)) (Or.inr (by decide)) (Or.inr (by decide)) (Or.inr (by decide)) (Or.inr (by decide))).trans pf7
  have pf8 := (yz21180.1 _ 8 (Or.inl (by rw [gx0]; decide)) (Or.inr (by decide)) (Or.inr (by decide)) (Or.inr (by decide)) (Or.inr (by decide)) (Or.inr (by decide)) (Or.inr (by decide)) (Or.inr (by decide))).trans pf8
  have pf9 := (yz21180.1 _ 9 (Or.inr (by decide)) (Or.inl (by rw [gx0]; decide)) (Or.inr (by decide)) (Or.inr (by decide)) (Or.inr (by decide)) (Or.inr (by decide)) (Or.inr (by decide)) (Or.inr (by decide))).trans pf9
  have pf10 := (yz21180.1 _ 10 (Or.inr (by decide)) (Or.inr (by decide)) (Or.inl (by rw [gx0]; decide)) (Or.inr (by decide)) (Or.inr (by decide)) (Or.inr (by decide)) (Or.inr (by decide)) (Or.inr (by decide))).trans pf10
  have pf11 := (yz21180.1 _ 0 (Or.inr (by decide)) (Or.inr (by decide)) (Or.inr (by decide)) (Or.inr (by decide)) (Or.inr (by decide)) (Or.inr (by decide)) (Or.inr (by decide)) (Or.inr (by decide))).trans pf11
  have hfr : (∀ b j : Nat, (tag b ≠ 44 ∨ j ≠ 8) → (tag b ≠ 44 ∨ j ≠ 12) → (tag b ≠ 46 ∨ j ≠ 8) → (tag b ≠ 46 ∨ j ≠ 9) → (tag b ≠ 46 ∨ j ≠ 10) → (tag b ≠ 46 ∨ j ≠ 11) → (tag b ≠ 46 ∨ j ≠ 12) → (tag b ≠ 46 ∨ j ≠ 13) → (tag b ≠ 46 ∨ j ≠ 14) → (tag b ≠ 46 ∨ j ≠ 15) → fld F b j = fld Fo b j) ∧ (∀ b j : Nat, tag b ≠ 30 → tag b ≠ 31 → tag b ≠ 34 → tag b ≠ 35 → tag b ≠ 36 → tag b ≠ 37 → elm F b j = elm Fo b j) := ⟨fun b j n44_8 n44_12 n46_8 n46_9 n46_10 n46_11 n46_12 n46_13 n46_14 n46_15 => (yz21180.1 b j n46_8 n46_9 n46_10 n46_11 n46_12 n46_13 n46_14 n46_15).trans (hfr.1 b j n44_8 n44_12 n46_8 n46_9 n46_10 n46_11 n46_12 n46_13 n46_14 n46_15), fun b j a30 a31 a34 a35 a36 a37 => (yz21180.2 b j ).trans (hfr.2 b j a30 a31 a34 a35 a36 a37)⟩
  have hrel := msr_of (fun j => yz21180.2 _ j ) (fun j => yz21180.2 _ j ) hrel
  have hstk := STK.tr hstk stz21180
  have hspt := SPT.tr hspt ptz21180
  refine lv_lstore_n (lv' := [(1, .long z21180), (0, .ref p0)]) hx hb dX13_readHouse_16 rfl hl (by decide) rfl (fun ls hl => ?_)
  refine lv_aload_n hx hb dX13_readHouse_17 rfl (lv_at hl 1 rfl) ?_
  refine m_ldcKw X 68 rfl dX13_readHouse_18 ?_
  refine t_cVv (n := 1) (C := RX13) (T := TX13) (N := 37) (As := [.ref (G.2 (100 + 68))]) (rest := []) X hT (km40_X13_needs l G tag L F hT.2.2.2 p0 68 x0 x1 x2 soz21180 spz21180 faz21180 m0 g0 (by decide) mx0 gx0 pf0 mx1 gx1 pf1 mx2 gx2 pf2 (by omega) qsoz21180 (by omega) qspz21180 (by omega) qfaz21180 hkf) m0 g0 rfl rfl qw_556 qw_557 qw_558 qw_5 qw_559 ⟨rfl, by decide +kernel, by decide +kernel, by decide +kernel⟩ ⟨Nat.le_of_ble_eq_true rfl, Nat.le_of_ble_eq_true rfl⟩ hl rfl rfl (Nat.le_of_ble_eq_true rfl) dX13_readHouse_21 ⟨Nat.le_of_ble_eq_true rfl, Nat.le_of_ble_eq_true rfl⟩ (fun F H locs hT hz21181 => ?_)
  obtain ⟨yz21181, ⟨soz21181, spz21181, faz21181, qsoz21181, qspz21181, qfaz21181, rsoz21181, rspz21181, rfaz21181, stz21181, ptz21181, hkf⟩⟩ := hz21181
  have pf0 := (yz21181.1 _ 4 (Or.inr (by decide)) (Or.inr (by decide)) (Or.inr (by decide)) (Or.inr (by decide)) (Or.inr (by decide)) (Or.inr (by decide)) (Or.inr (by decide)) (Or.inr (by decide))).trans pf0
  have pf1 := (yz21181.1 _ 28 (Or.inr (by decide)) (Or.inr (by decide)) (Or.inr (by decide)) (Or.inr (by decide)) (Or.inr (by decide)) (Or.inr (by decide)) (Or.inr (by decide)) (Or.inr (by decide))).trans pf1
  have pf2 := (yz21181.1 _ 29 (Or.inr (by decide)) (Or.inr (by decide)) (Or.inr (by decide)) (Or.inr (by decide)) (Or.inr (by decide)) (Or.inr (by decide)) (Or.inr (by decide)) (Or.inr (by decide))).trans pf2
  have pf6 := (yz21181.1 _ 12 (Or.inr (by decide)) (Or.inr (by decide)) (Or.inr (by decide)) (Or.inr (by decide)) (Or.inl (by rw [gx0]; decide)) (Or.inr (by decide)) (Or.inr (by decide)) (Or.inr (by decide))).trans pf6
  have pf7 := (yz21181.1 _ 7 (Or.inr (by decide)) (Or.inr (by decide)) (Or.inr (by decide)) (Or.inr (by decide)) (Or.inr (by decide)) (Or.inr (by decide)) (Or.inr (by decide)) (Or.inr (by decide))).trans pf7
  have pf8 := (yz21181.1 _ 8 (Or.inl (by rw [gx0]; decide)) (Or.inr (by decide)) (Or.inr (by decide)) (Or.inr (by decide)) (Or.inr (by decide)) (Or.inr (by decide)) (Or.inr (by decide)) (Or.inr (by decide))).trans pf8
  have pf9 := (yz21181.1 _ 9 (Or.inr (by decide)) (Or.inl (by rw [gx0]; decide)) (Or.inr (by decide)) (Or.inr (by decide)) (Or.inr (by decide)) (Or.inr (by decide)) (Or.inr (by decide)) (Or.inr (by decide))).trans pf9
  have pf10 := (yz21181.1 _ 10 (Or.inr (by decide)) (Or.inr (by decide)) (Or.inl (by rw [gx0]; decide)) (Or.inr (by decide)) (Or.inr (by decide)) (Or.inr (by decide)) (Or.inr (by decide)) (Or.inr (by decide))).trans pf10
  have pf11 := (yz21181.1 _ 0 (Or.inr (by decide)) (Or.inr (by decide)) (Or.inr (by decide)) (Or.inr (by decide)) (Or.inr (by decide)) (Or.inr (by decide)) (Or.inr (by decide)) (Or.inr (by decide))).trans pf11
  have hfr : (∀ b j : Nat, (tag b ≠ 44 ∨ j ≠ 8) → (tag b ≠ 44 ∨ j ≠ 12) → (tag b ≠ 46 ∨ j ≠ 8) → (tag b ≠ 46 ∨ j ≠ 9) → (tag b ≠ 46 ∨ j ≠ 10) → (tag b ≠ 46 ∨ j ≠ 11) → (tag b ≠ 46 ∨ j ≠ 12) → (tag b ≠ 46 ∨ j ≠ 13) → (tag b ≠ 46 ∨ j ≠ 14) → (tag b ≠ 46 ∨ j ≠ 15) → fld F b j = fld Fo b j) ∧ (∀ b j : Nat, tag b ≠ 30 → tag b ≠ 31 → tag b ≠ 34 → tag b ≠ 35 → tag b ≠ 36 → tag b ≠ 37 → elm F b j = elm Fo b j) := ⟨fun b j n44_8 n44_12 n46_8 n46_9 n46_10 n46_11 n46_12 n46_13 n46_14 n46_15 => (yz21181.1 b j n46_8 n46_9 n46_10 n46_11 n46_12 n46_13 n46_14 n46_15).trans (hfr.1 b j n44_8 n44_12 n46_8 n46_9 n46_10 n46_11 n46_12 n46_13 n46_14 n46_15), fun b j a30 a31 a34 a35 a36 a37 => (yz21181.2 b j ).trans (hfr.2 b j a30 a31 a34 a35 a36 a37)⟩
  have hrel := msr_of (fun j => yz21181.2 _ j ) (fun j => yz21181.2 _ j ) hrel
  have hstk := STK.tr hstk stz21181
  have hspt := SPT.tr hspt ptz21181
  refine lv_aload_n hx hb dX13_readHouse_24 rfl (lv_at hl 1 rfl) ?_
  refine t_cVi (n := 0) (C := RX13) (T := TX13) (N := 37) (As := []) (rest := []) X hT (km55_X13_knownCell l G tag L F hT.2.2.2 p0 x0 x1 x2 soz21181 spz21181 faz21181 m0 g0 mx0 gx0 pf0 mx1 gx1 pf1 mx2 gx2 pf2 (by omega) qsoz21181 (by omega) qspz21181 (by omega) qfaz21181 hkf) m0 g0 rfl rfl qw_583 qw_584 qw_585 qw_5 qw_586 ⟨rfl, by decide +kernel, by decide +kernel, by decide +kernel⟩ ⟨Nat.le_of_ble_eq_true rfl, Nat.le_of_ble_eq_true rfl⟩ hl rfl rfl (Nat.le_of_ble_eq_true rfl) dX13_readHouse_25 ⟨Nat.le_of_ble_eq_true rfl, Nat.le_of_ble_eq_true rfl⟩ (fun z21182 F H locs hT hz21182 => ?_)
  obtain ⟨hz21182, yz21182, ⟨soz21182, spz21182, faz21182, qsoz21182, qspz21182, qfaz21182, rsoz21182, rspz21182, rfaz21182, stz21182, ptz21182, hkf⟩⟩ := hz21182
  have pf0 := (yz21182.1 _ 4 (Or.inr (by decide)) (Or.inr (by decide)) (Or.inr (by decide)) (Or.inr (by decide)) (Or.inr (by decide)) (Or.inr (by decide)) (Or.inr (by decide)) (Or.inr (by decide))).trans pf0
  have pf1 := (yz21182.1 _ 28 (Or.inr (by decide)) (Or.inr (by decide)) (Or.inr (by decide)) (Or.inr (by decide)) (Or.inr (by decide)) (Or.inr (by decide)) (Or.inr (by decide)) (Or.inr (by decide))).trans pf1
  have pf2 := (yz21182.1 _ 29 (Or.inr (by decide)) (Or.inr (by decide)) (Or.inr (by decide)) (Or.inr (by decide)) (Or.inr (by decide)) (Or.inr (by decide)) (Or.inr (by decide)) (Or.inr (by decide))).trans pf2
  have pf6 := (yz21182.1 _ 12 (Or.inr (by decide)) (Or.inr (by decide)) (Or.inr (by decide)) (Or.inr (by decide)) (Or.inl (by rw [gx0]; decide)) (Or.inr (by decide)) (Or.inr (by decide)) (Or.inr (by decide))).trans pf6
  have pf7 := (yz21182.1 _ 7 (Or.inr (by decide)) (Or.inr (by decide)) (Or.inr (by decide)) (Or.inr (by decide)) (Or.inr (by decide)) (Or.inr (by decide)) (Or.inr (by decide)) (Or.inr (by decide))).trans pf7
  have pf8 := (yz21182.1 _ 8 (Or.inl (by rw [gx0]; decide)) (Or.inr (by decide)) (Or.inr (by decide)) (Or.inr (by decide)) (Or.inr (by decide)) (Or.inr (by decide)) (Or.inr (by decide)) (Or.inr (by decide))).trans pf8
  have pf9 := (yz21182.1 _ 9 (Or.inr (by decide)) (Or.inl (by rw [gx0]; decide)) (Or.inr (by decide)) (Or.inr (by decide)) (Or.inr (by decide)) (Or.inr (by decide)) (Or.inr (by decide)) (Or.inr (by decide))).trans pf9
  have pf10 := (yz21182.1 _ 10 (Or.inr (by decide)) (Or.inr (by decide)) (Or.inl (by rw [gx0]; decide)) (Or.inr (by decide)) (Or.inr (by decide)) (Or.inr (by decide)) (Or.inr (by decide)) (Or.inr (by decide))).trans pf10
  have pf11 := (yz21182.1 _ 0 (Or.inr (by decide)) (Or.inr (by decide)) (Or.inr (by decide)) (Or.inr (by decide)) (Or.inr (by decide)) (Or.inr (by decide)) (Or.inr (by decide)) (Or.inr (by decide))).trans pf11
  have hfr : (∀ b j : Nat, (tag b ≠ 44 ∨ j ≠ 8) → (tag b ≠ 44 ∨ j ≠ 12) → (tag b ≠ 46 ∨ j ≠ 8) → (tag b ≠ 46 ∨ j ≠ 9) → (tag b ≠ 46 ∨ j ≠ 10) → (tag b ≠ 46 ∨ j ≠ 11) → (tag b ≠ 46 ∨ j ≠ 12) → (tag b ≠ 46 ∨ j ≠ 13) → (tag b ≠ 46 ∨ j ≠ 14) → (tag b ≠ 46 ∨ j ≠ 15) → fld F b j = fld Fo b j) ∧ (∀ b j : Nat, tag b ≠ 30 → tag b ≠ 31 → tag b ≠ 34 → tag b ≠ 35 → tag b ≠ 36 → tag b ≠ 37 → elm F b j = elm Fo b j) := ⟨fun b j n44_8 n44_12 n46_8 n46_9 n46_10 n46_11 n46_12 n46_13 n46_14 n46_15 => (yz21182.1 b j n46_8 n46_9 n46_10 n46_11 n46_12 n46_13 n46_14 n46_15).trans (hfr.1 b j n44_8 n44_12 n46_8 n46_9 n46_10 n46_11 n46_12 n46_13 n46_14 n46_15), fun b j a30 a31 a34 a35 a36 a37 => (yz21182.2 b j ).trans (hfr.2 b j a30 a31 a34 a35 a36 a37)⟩
  have hrel := msr_of (fun j => yz21182.2 _ j ) (fun j => yz21182.2 _ j ) hrel
  have hstk := STK.tr hstk stz21182
  have hspt := SPT.tr hspt ptz21182
  refine lv_istore_n (lv' := [(3, .int z21182), (1, .long z21180), (0, .ref p0)]) hx hb dX13_readHouse_28 rfl hl (by decide) rfl (fun ls hl => ?_)
  refine lv_aload_n hx hb dX13_readHouse_29 rfl (lv_at hl 2 rfl) ?_
  refine t_get (C := RX13) (T := TX13) (N := 37) X hT m0 g0 rfl rfl 9 (by decide) qw_478 inlX13 rfl dX13_readHouse_30 (fun v21183 hv21183 ov21183 => ?_)
  obtain rfl : v21183 = .int soz21182 := hv21183.symm.trans qsoz21182
  refine lv_iconst (v := 5) hx hb dX13_readHouse_33 (by decide) ?_
  refine lv_icmp_eq (tgt := 90) hx hb dX13_readHouse_34 (by decide) (fun c21184 => ?_) (fun c21184 => ?_)
  · have w21185 := cv_eq (rfl : soz21182.toInt = soz21182.toInt) (by decide : (5 : Int32).toInt = 5) c21184
    refine lv_aload_n hx hb dX13_readHouse_90 rfl (lv_at hl 2 rfl) ?_
    refine t_cVv (n := 0) (C := RX13) (T := TX13) (N := 37) (As := []) (rest := []) X hT (km14_X13_goesOn l G tag L F hT.2.2.2 p0 x0 x1 x2 soz21182 spz21182 faz21182 m0 g0 mx0 gx0 pf0 mx1 gx1 pf1 mx2 gx2 pf2 (by omega) qsoz21182 (by omega) qspz21182 (by omega) qfaz21182 hkf) m0 g0 rfl rfl qw_508 qw_509 qw_510 qw_5 qw_511 ⟨rfl, by decide +kernel, by decide +kernel, by decide +kernel⟩ ⟨Nat.le_of_ble_eq_true rfl, Nat.le_of_ble_eq_true rfl⟩ hl rfl rfl (Nat.le_of_ble_eq_true rfl) dX13_readHouse_91 ⟨Nat.le_of_ble_eq_true rfl, Nat.le_of_ble_eq_true rfl⟩ (fun F H locs hT hz21186 => ?_)
    obtain ⟨yz21186, ⟨soz21186, spz21186, faz21186, qsoz21186, qspz21186, qfaz21186, rsoz21186, rspz21186, rfaz21186, stz21186, ptz21186, hkf⟩⟩ := hz21186
    have pf0 := (yz21186.1 _ 4 (Or.inr (by decide)) (Or.inr (by decide)) (Or.inr (by decide)) (Or.inr (by decide)) (Or.inr (by decide)) (Or.inr (by decide))).trans pf0
    have pf1 := (yz21186.1 _ 28 (Or.inr (by decide)) (Or.inr (by decide)) (Or.inr (by decide)) (Or.inr (by decide)) (Or.inr (by decide)) (Or.inr (by decide))).trans pf1
    have pf2 := (yz21186.1 _ 29 (Or.inr (by decide)) (Or.inr (by decide)) (Or.inr (by decide)) (Or.inr (by decide)) (Or.inr (by decide)) (Or.inr (by decide))).trans pf2
    have pf6 := (yz21186.1 _ 12 (Or.inr (by decide)) (Or.inr (by decide)) (Or.inr (by decide)) (Or.inr (by decide)) (Or.inl (by rw [gx0]; decide)) (Or.inr (by decide))).trans pf6
    have pf7 := (yz21186.1 _ 7 (Or.inr (by decide)) (Or.inr (by decide)) (Or.inr (by decide)) (Or.inr (by decide)) (Or.inr (by decide)) (Or.inr (by decide))).trans pf7
    have pf8 := (yz21186.1 _ 8 (Or.inl (by rw [gx0]; decide)) (Or.inr (by decide)) (Or.inr (by decide)) (Or.inr (by decide)) (Or.inr (by decide)) (Or.inr (by decide))).trans pf8
    have pf9 := (yz21186.1 _ 9 (Or.inr (by decide)) (Or.inl (by rw [gx0]; decide)) (Or.inr (by decide)) (Or.inr (by decide)) (Or.inr (by decide)) (Or.inr (by decide))).trans pf9
    have pf10 := (yz21186.1 _ 10 (Or.inr (by decide)) (Or.inr (by decide)) (Or.inl (by rw [gx0]; decide)) (Or.inr (by decide)) (Or.inr (by decide)) (Or.inr (by decide))).trans pf10
    have pf11 := (yz21186.1 _ 0 (Or.inr (by decide)) (Or.inr (by decide)) (Or.inr (by decide)) (Or.inr (by decide)) (Or.inr (by decide)) (Or.inr (by decide))).trans pf11
    have qfaz21182 := (yz21186.1 _ 13 (Or.inr (by decide)) (Or.inr (by decide)) (Or.inr (by decide)) (Or.inr (by decide)) (Or.inr (by decide)) (Or.inr (by decide))).trans qfaz21182
    have hfr : (∀ b j : Nat, (tag b ≠ 44 ∨ j ≠ 8) → (tag b ≠ 44 ∨ j ≠ 12) → (tag b ≠ 46 ∨ j ≠ 8) → (tag b ≠ 46 ∨ j ≠ 9) → (tag b ≠ 46 ∨ j ≠ 10) → (tag b ≠ 46 ∨ j ≠ 11) → (tag b ≠ 46 ∨ j ≠ 12) → (tag b ≠ 46 ∨ j ≠ 13) → (tag b ≠ 46 ∨ j ≠ 14) → (tag b ≠ 46 ∨ j ≠ 15) → fld F b j = fld Fo b j) ∧ (∀ b j : Nat, tag b ≠ 30 → tag b ≠ 31 → tag b ≠ 34 → tag b ≠ 35 → tag b ≠ 36 → tag b ≠ 37 → elm F b j = elm Fo b j) := ⟨fun b j n44_8 n44_12 n46_8 n46_9 n46_10 n46_11 n46_12 n46_13 n46_14 n46_15 => (yz21186.1 b j n46_8 n46_9 n46_10 n46_11 n46_12 n46_15).trans (hfr.1 b j n44_8 n44_12 n46_8 n46_9 n46_10 n46_11 n46_12 n46_13 n46_14 n46_15), fun b j a30 a31 a34 a35 a36 a37 => (yz21186.2 b j ).trans (hfr.2 b j a30 a31 a34 a35 a36 a37)⟩
    have hrel := msr_of (fun j => yz21186.2 _ j ) (fun j => yz21186.2 _ j ) hrel
    have hstk := STK.tr hstk stz21186
    have hspt := SPT.tr hspt ptz21186
    have k5z21186 : soz21186.toInt = 5 := stz21186 (by omega)
    refine lv_aload_n hx hb dX13_readHouse_94 rfl (lv_at hl 2 rfl) ?_
    refine m_ldcKw X 69 rfl dX13_readHouse_95 ?_
    refine t_cVv (n := 1) (C := RX13) (T := TX13) (N := 37) (As := [.ref (G.2 (100 + 69))]) (rest := []) X hT (km40_X13_needs l G tag L F hT.2.2.2 p0 69 x0 x1 x2 soz21186 spz21186 faz21186 m0 g0 (by decide) mx0 gx0 pf0 mx1 gx1 pf1 mx2 gx2 pf2 (by omega) qsoz21186 (by omega) qspz21186 (by omega) qfaz21186 hkf) m0 g0 rfl rfl qw_556 qw_557 qw_558 qw_5 qw_559 ⟨rfl, by decide +kernel, by decide +kernel, by decide +kernel⟩ ⟨Nat.le_of_ble_eq_true rfl, Nat.le_of_ble_eq_true rfl⟩ hl rfl rfl (Nat.le_of_ble_eq_true rfl) dX13_readHouse_98 ⟨Nat.le_of_ble_eq_true rfl, Nat.le_of_ble_eq_true rfl⟩ (fun F H locs hT hz21187 => ?_)
    obtain ⟨yz21187, ⟨soz21187, spz21187, faz21187, qsoz21187, qspz21187, qfaz21187, rsoz21187, rspz21187, rfaz21187, stz21187, ptz21187, hkf⟩⟩ := hz21187
    have pf0 := (yz21187.1 _ 4 (Or.inr (by decide)) (Or.inr (by decide)) (Or.inr (by decide)) (Or.inr (by decide)) (Or.inr (by decide)) (Or.inr (by decide)) (Or.inr (by decide)) (Or.inr (by decide))).trans pf0
    have pf1 := (yz21187.1 _ 28 (Or.inr (by decide)) (Or.inr (by decide)) (Or.inr (by decide)) (Or.inr (by decide)) (Or.inr (by decide)) (Or.inr (by decide)) (Or.inr (by decide)) (Or.inr (by decide))).trans pf1
    have pf2 := (yz21187.1 _ 29 (Or.inr (by decide)) (Or.inr (by decide)) (Or.inr (by decide)) (Or.inr (by decide)) (Or.inr (by decide)) (Or.inr (by decide)) (Or.inr (by decide)) (Or.inr (by decide))).trans pf2
    have pf6 := (yz21187.1 _ 12 (Or.inr (by decide)) (Or.inr (by decide)) (Or.inr (by decide)) (Or.inr (by decide)) (Or.inl (by rw [gx0]; decide)) (Or.inr (by decide)) (Or.inr (by decide)) (Or.inr (by decide))).trans pf6
    have pf7 := (yz21187.1 _ 7 (Or.inr (by decide)) (Or.inr (by decide)) (Or.inr (by decide)) (Or.inr (by decide)) (Or.inr (by decide)) (Or.inr (by decide)) (Or.inr (by decide)) (Or.inr (by decide))).trans pf7
    have pf8 := (yz21187.1 _ 8 (Or.inl (by rw [gx0]; decide)) (Or.inr (by decide)) (Or.inr (by decide)) (Or.inr (by decide)) (Or.inr (by decide)) (Or.inr (by decide)) (Or.inr (by decide)) (Or.inr (by decide))).trans pf8
    have pf9 := (yz21187.1 _ 9 (Or.inr (by decide)) (Or.inl (by rw [gx0]; decide)) (Or.inr (by decide)) (Or.inr (by decide)) (Or.inr (by decide)) (Or.inr (by decide)) (Or.inr (by decide)) (Or.inr (by decide))).trans pf9
    have pf10 := (yz21187.1 _ 10 (Or.inr (by decide)) (Or.inr (by decide)) (Or.inl (by rw [gx0]; decide)) (Or.inr (by decide)) (Or.inr (by decide)) (Or.inr (by decide)) (Or.inr (by decide)) (Or.inr (by decide))).trans pf10
    have pf11 := (yz21187.1 _ 0 (Or.inr (by decide)) (Or.inr (by decide)) (Or.inr (by decide)) (Or.inr (by decide)) (Or.inr (by decide)) (Or.inr (by decide)) (Or.inr (by decide)) (Or.inr (by decide))).trans pf11
    have hfr : (∀ b j : Nat, (tag b ≠ 44 ∨ j ≠ 8) → (tag b ≠ 44 ∨ j ≠ 12) → (tag b ≠ 46 ∨ j ≠ 8) → (tag b ≠ 46 ∨ j ≠ 9) → (tag b ≠ 46 ∨ j ≠ 10) → (tag b ≠ 46 ∨ j ≠ 11) → (tag b ≠ 46 ∨ j ≠ 12) → (tag b ≠ 46 ∨ j ≠ 13) → (tag b ≠ 46 ∨ j ≠ 14) → (tag b ≠ 46 ∨ j ≠ 15) → fld F b j = fld Fo b j) ∧ (∀ b j : Nat, tag b ≠ 30 → tag b ≠ 31 → tag b ≠ 34 → tag b ≠ 35 → tag b ≠ 36 → tag b ≠ 37 → elm F b j = elm Fo b j) := ⟨fun b j n44_8 n44_12 n46_8 n46_9 n46_10 n46_11 n46_12 n46_13 n46_14 n46_15 => (yz21187.1 b j n46_8 n46_9 n46_10 n46_11 n46_12 n46_13 n46_14 n46_15).trans (hfr.1 b j n44_8 n44_12 n46_8 n46_9 n46_10 n46_11 n46_12 n46_13 n46_14 n46_15), fun b j a30 a31 a34 a35 a36 a37 => (yz21187.2 b j ).trans (hfr.2 b j a30 a31 a34 a35 a36 a37)⟩
    have hrel := msr_of (fun j => yz21187.2 _ j ) (fun j => yz21187.2 _ j ) hrel
    have hstk := STK.tr hstk stz21187
    have hspt := SPT.tr hspt ptz21187
    have k5z21187 : soz21187.toInt = 5 := stz21187 (by omega)
    refine lv_aload_n hx hb dX13_readHouse_101 rfl (lv_at hl 2 rfl) ?_
    refine lv_iconst (v := 0) hx hb dX13_readHouse_102 (by decide) ?_
    refine t_cVi (n := 1) (C := RX13) (T := TX13) (N := 37) (As := [.int 0]) (rest := []) X hT (km36_X13_readKnown l G tag L F hT.2.2.2 p0 0 x0 x1 x2 soz21187 spz21187 faz21187 m0 g0 (by decide) mx0 gx0 pf0 mx1 gx1 pf1 mx2 gx2 pf2 (by omega) qsoz21187 (by omega) qspz21187 (by omega) qfaz21187 hrel hkf) m0 g0 rfl rfl qw_632 qw_633 qw_634 qw_5 qw_635 ⟨rfl, by decide +kernel, by decide +kernel, by decide +kernel⟩ ⟨Nat.le_of_ble_eq_true rfl, Nat.le_of_ble_eq_true rfl⟩ hl rfl rfl (Nat.le_of_ble_eq_true rfl) dX13_readHouse_103 ⟨Nat.le_of_ble_eq_true rfl, Nat.le_of_ble_eq_true rfl⟩ (fun z21188 F H locs hT hz21188 => ?_)
    obtain ⟨hz21188, yz21188, hrel, ⟨soz21188, spz21188, faz21188, qsoz21188, qspz21188, qfaz21188, rsoz21188, rspz21188, rfaz21188, stz21188, ptz21188, hkf⟩⟩ := hz21188
    have pf0 := (yz21188.1 _ 4 (Or.inr (by decide)) (Or.inr (by decide)) (Or.inr (by decide)) (Or.inr (by decide)) (Or.inr (by decide)) (Or.inr (by decide)) (Or.inr (by decide)) (Or.inr (by decide))).trans pf0
    have pf1 := (yz21188.1 _ 28 (Or.inr (by decide)) (Or.inr (by decide)) (Or.inr (by decide)) (Or.inr (by decide)) (Or.inr (by decide)) (Or.inr (by decide)) (Or.inr (by decide)) (Or.inr (by decide))).trans pf1
    have pf2 := (yz21188.1 _ 29 (Or.inr (by decide)) (Or.inr (by decide)) (Or.inr (by decide)) (Or.inr (by decide)) (Or.inr (by decide)) (Or.inr (by decide)) (Or.inr (by decide)) (Or.inr (by decide))).trans pf2
    have pf6 := (yz21188.1 _ 12 (Or.inr (by decide)) (Or.inr (by decide)) (Or.inr (by decide)) (Or.inr (by decide)) (Or.inl (by rw [gx0]; decide)) (Or.inr (by decide)) (Or.inr (by decide)) (Or.inr (by decide))).trans pf6
    have pf7 := (yz21188.1 _ 7 (Or.inr (by decide)) (Or.inr (by decide)) (Or.inr (by decide)) (Or.inr (by decide)) (Or.inr (by decide)) (Or.inr (by decide)) (Or.inr (by decide)) (Or.inr (by decide))).trans pf7
    have pf8 := (yz21188.1 _ 8 (Or.inl (by rw [gx0]; decide)) (Or.inr (by decide)) (Or.inr (by decide)) (Or.inr (by decide)) (Or.inr (by decide)) (Or.inr (by decide)) (Or.inr (by decide)) (Or.inr (by decide))).trans pf8
    have pf9 := (yz21188.1 _ 9 (Or.inr (by decide)) (Or.inl (by rw [gx0]; decide)) (Or.inr (by decide)) (Or.inr (by decide)) (Or.inr (by decide)) (Or.inr (by decide)) (Or.inr (by decide)) (Or.inr (by decide))).trans pf9
    have pf10 := (yz21188.1 _ 10 (Or.inr (by decide)) (Or.inr (by decide)) (Or.inl (by rw [gx0]; decide)) (Or.inr (by decide)) (Or.inr (by decide)) (Or.inr (by decide)) (Or.inr (by decide)) (Or.inr (by decide))).trans pf10
    have pf11 := (yz21188.1 _ 0 (Or.inr (by decide)) (Or.inr (by decide)) (Or.inr (by decide)) (Or.inr (by decide)) (Or.inr (by decide)) (Or.inr (by decide)) (Or.inr (by decide)) (Or.inr (by decide))).trans pf11
    have hfr : (∀ b j : Nat, (tag b ≠ 44 ∨ j ≠ 8) → (tag b ≠ 44 ∨ j ≠ 12) → (tag b ≠ 46 ∨ j ≠ 8) → (tag b ≠ 46 ∨ j ≠ 9) → (tag b ≠ 46 ∨ j ≠ 10) → (tag b ≠ 46 ∨ j ≠ 11) → (tag b ≠ 46 ∨ j ≠ 12) → (tag b ≠ 46 ∨ j ≠ 13) → (tag b ≠ 46 ∨ j ≠ 14) → (tag b ≠ 46 ∨ j ≠ 15) → fld F b j = fld Fo b j) ∧ (∀ b j : Nat, tag b ≠ 30 → tag b ≠ 31 → tag b ≠ 34 → tag b ≠ 35 → tag b ≠ 36 → tag b ≠ 37 → elm F b j = elm Fo b j) := ⟨fun b j n44_8 n44_12 n46_8 n46_9 n46_10 n46_11 n46_12 n46_13 n46_14 n46_15 => (yz21188.1 b j n46_8 n46_9 n46_10 n46_11 n46_12 n46_13 n46_14 n46_15).trans (hfr.1 b j n44_8 n44_12 n46_8 n46_9 n46_10 n46_11 n46_12 n46_13 n46_14 n46_15), fun b j a30 a31 a34 a35 a36 a37 => (yz21188.2 b j ).trans (hfr.2 b j a30 a31 a34 a35 a36 a37)⟩
    have hstk := STK.tr hstk stz21188
    have hspt := SPT.tr hspt ptz21188
    have k5z21188 : soz21188.toInt = 5 := stz21188 (by omega)
    refine lv_istore (lv' := [(4, .int z21188), (3, .int z21182), (1, .long z21180), (0, .ref p0)]) hx hb dX13_readHouse_106 hl (by decide) rfl (fun ls hl => ?_)
    refine lv_aload_n hx hb dX13_readHouse_108 rfl (lv_at hl 3 rfl) ?_
    refine m_ldcKw X 70 rfl dX13_readHouse_109 ?_
    refine lv_iconst (v := 0) hx hb dX13_readHouse_112 (by decide) ?_
    refine lv_bipush (v := 99) hx hb dX13_readHouse_113 (by decide) ?_
    refine t_cVi (n := 3) (C := RX13) (T := TX13) (N := 37) (As := [.ref (G.2 (100 + 70)), .int 0, .int 99]) (rest := []) X hT (km43_X13_readPart l G tag L F hT.2.2.2 p0 70 0 99 x0 x1 x2 soz21188 spz21188 faz21188 m0 g0 (by decide) (by decide) (by decide) mx0 gx0 pf0 mx1 gx1 pf1 mx2 gx2 pf2 (by omega) qsoz21188 (by omega) qspz21188 (by omega) qfaz21188 hkf) m0 g0 rfl rfl qw_552 qw_553 qw_554 qw_5 qw_555 ⟨rfl, by decide +kernel, by decide +kernel, by decide +kernel⟩ ⟨Nat.le_of_ble_eq_true rfl, Nat.le_of_ble_eq_true rfl⟩ hl rfl rfl (Nat.le_of_ble_eq_true rfl) dX13_readHouse_115 ⟨Nat.le_of_ble_eq_true rfl, Nat.le_of_ble_eq_true rfl⟩ (fun z21189 F H locs hT hz21189 => ?_)
    obtain ⟨hz21189, yz21189, ⟨soz21189, spz21189, faz21189, qsoz21189, qspz21189, qfaz21189, rsoz21189, rspz21189, rfaz21189, stz21189, ptz21189, hkf⟩⟩ := hz21189
    have pf0 := (yz21189.1 _ 4 (Or.inr (by decide)) (Or.inr (by decide)) (Or.inr (by decide)) (Or.inr (by decide)) (Or.inr (by decide)) (Or.inr (by decide)) (Or.inr (by decide)) (Or.inr (by decide))).trans pf0
    have pf1 := (yz21189.1 _ 28 (Or.inr (by decide)) (Or.inr (by decide)) (Or.inr (by decide)) (Or.inr (by decide)) (Or.inr (by decide)) (Or.inr (by decide)) (Or.inr (by decide)) (Or.inr (by decide))).trans pf1
    have pf2 := (yz21189.1 _ 29 (Or.inr (by decide)) (Or.inr (by decide)) (Or.inr (by decide)) (Or.inr (by decide)) (Or.inr (by decide)) (Or.inr (by decide)) (Or.inr (by decide)) (Or.inr (by decide))).trans pf2
    have pf6 := (yz21189.1 _ 12 (Or.inr (by decide)) (Or.inr (by decide)) (Or.inr (by decide)) (Or.inr (by decide)) (Or.inl (by rw [gx0]; decide)) (Or.inr (by decide)) (Or.inr (by decide)) (Or.inr (by decide))).trans pf6
    have pf7 := (yz21189.1 _ 7 (Or.inr (by decide)) (Or.inr (by decide)) (Or.inr (by decide)) (Or.inr (by decide)) (Or.inr (by decide)) (Or.inr (by decide)) (Or.inr (by decide)) (Or.inr (by decide))).trans pf7
    have pf8 := (yz21189.1 _ 8 (Or.inl (by rw [gx0]; decide)) (Or.inr (by decide)) (Or.inr (by decide)) (Or.inr (by decide)) (Or.inr (by decide)) (Or.inr (by decide)) (Or.inr (by decide)) (Or.inr (by decide))).trans pf8
    have pf9 := (yz21189.1 _ 9 (Or.inr (by decide)) (Or.inl (by rw [gx0]; decide)) (Or.inr (by decide)) (Or.inr (by decide)) (Or.inr (by decide)) (Or.inr (by decide)) (Or.inr (by decide)) (Or.inr (by decide))).trans pf9
    have pf10 := (yz21189.1 _ 10 (Or.inr (by decide)) (Or.inr (by decide)) (Or.inl (by rw [gx0]; decide)) (Or.inr (by decide)) (Or.inr (by decide)) (Or.inr (by decide)) (Or.inr (by decide)) (Or.inr (by decide))).trans pf10
    have pf11 := (yz21189.1 _ 0 (Or.inr (by decide)) (Or.inr (by decide)) (Or.inr (by decide)) (Or.inr (by decide)) (Or.inr (by decide)) (Or.inr (by decide)) (Or.inr (by decide)) (Or.inr (by decide))).trans pf11
    have hfr : (∀ b j : Nat, (tag b ≠ 44 ∨ j ≠ 8) → (tag b ≠ 44 ∨ j ≠ 12) → (tag b ≠ 46 ∨ j ≠ 8) → (tag b ≠ 46 ∨ j ≠ 9) → (tag b ≠ 46 ∨ j ≠ 10) → (tag b ≠ 46 ∨ j ≠ 11) → (tag b ≠ 46 ∨ j ≠ 12) → (tag b ≠ 46 ∨ j ≠ 13) → (tag b ≠ 46 ∨ j ≠ 14) → (tag b ≠ 46 ∨ j ≠ 15) → fld F b j = fld Fo b j) ∧ (∀ b j : Nat, tag b ≠ 30 → tag b ≠ 31 → tag b ≠ 34 → tag b ≠ 35 → tag b ≠ 36 → tag b ≠ 37 → elm F b j = elm Fo b j) := ⟨fun b j n44_8 n44_12 n46_8 n46_9 n46_10 n46_11 n46_12 n46_13 n46_14 n46_15 => (yz21189.1 b j n46_8 n46_9 n46_10 n46_11 n46_12 n46_13 n46_14 n46_15).trans (hfr.1 b j n44_8 n44_12 n46_8 n46_9 n46_10 n46_11 n46_12 n46_13 n46_14 n46_15), fun b j a30 a31 a34 a35 a36 a37 => (yz21189.2 b j ).trans (hfr.2 b j a30 a31 a34 a35 a36 a37)⟩
    have hrel := msr_of (fun j => yz21189.2 _ j ) (fun j => yz21189.2 _ j ) hrel
    have hstk := STK.tr hstk stz21189
    have hspt := SPT.tr hspt ptz21189
    have k5z21189 : soz21189.toInt = 5 := stz21189 (by omega)
    refine lv_istore (lv' := [(5, .int z21189), (4, .int z21188), (3, .int z21182), (1, .long z21180), (0, .ref p0)]) hx hb dX13_readHouse_118 hl (by decide) rfl (fun ls hl => ?_)
    refine lv_aload_n hx hb dX13_readHouse_120 rfl (lv_at hl 4 rfl) ?_
    refine m_ldcKw X 71 rfl dX13_readHouse_121 ?_
    refine lv_iconst (v := 0) hx hb dX13_readHouse_124 (by decide) ?_
    refine lv_sipush (v := 999) hx hb dX13_readHouse_125 (by decide) ?_
    refine t_cVi (n := 3) (C := RX13) (T := TX13) (N := 37) (As := [.ref (G.2 (100 + 71)), .int 0, .int 999]) (rest := []) X hT (km56_X13_readPart l G tag L F hT.2.2.2 p0 71 0 999 x0 x1 x2 soz21189 spz21189 faz21189 m0 g0 (by decide) (by decide) (by decide) mx0 gx0 pf0 mx1 gx1 pf1 mx2 gx2 pf2 (by omega) qsoz21189 (by omega) qspz21189 (by omega) qfaz21189 hkf) m0 g0 rfl rfl qw_552 qw_553 qw_554 qw_5 qw_555 ⟨rfl, by decide +kernel, by decide +kernel, by decide +kernel⟩ ⟨Nat.le_of_ble_eq_true rfl, Nat.le_of_ble_eq_true rfl⟩ hl rfl rfl (Nat.le_of_ble_eq_true rfl) dX13_readHouse_128 ⟨Nat.le_of_ble_eq_true rfl, Nat.le_of_ble_eq_true rfl⟩ (fun z21190 F H locs hT hz21190 => ?_)
    obtain ⟨hz21190, yz21190, ⟨soz21190, spz21190, faz21190, qsoz21190, qspz21190, qfaz21190, rsoz21190, rspz21190, rfaz21190, stz21190, ptz21190, hkf⟩⟩ := hz21190
    have pf0 := (yz21190.1 _ 4 (Or.inr (by decide)) (Or.inr (by decide)) (Or.inr (by decide)) (Or.inr (by decide)) (Or.inr (by decide)) (Or.inr (by decide)) (Or.inr (by decide)) (Or.inr (by decide))).trans pf0
    have pf1 := (yz21190.1 _ 28 (Or.inr (by decide)) (Or.inr (by decide)) (Or.inr (by decide)) (Or.inr (by decide)) (Or.inr (by decide)) (Or.inr (by decide)) (Or.inr (by decide)) (Or.inr (by decide))).trans pf1
    have pf2 := (yz21190.1 _ 29 (Or.inr (by decide)) (Or.inr (by decide)) (Or.inr (by decide)) (Or.inr (by decide)) (Or.inr (by decide)) (Or.inr (by decide)) (Or.inr (by decide)) (Or.inr (by decide))).trans pf2
    have pf6 := (yz21190.1 _ 12 (Or.inr (by decide)) (Or.inr (by decide)) (Or.inr (by decide)) (Or.inr (by decide)) (Or.inl (by rw [gx0]; decide)) (Or.inr (by decide)) (Or.inr (by decide)) (Or.inr (by decide))).trans pf6
    have pf7 := (yz21190.1 _ 7 (Or.inr (by decide)) (Or.inr (by decide)) (Or.inr (by decide)) (Or.inr (by decide)) (Or.inr (by decide)) (Or.inr (by decide)) (Or.inr (by decide)) (Or.inr (by decide))).trans pf7
    have pf8 := (yz21190.1 _ 8 (Or.inl (by rw [gx0]; decide)) (Or.inr (by decide)) (Or.inr (by decide)) (Or.inr (by decide)) (Or.inr (by decide)) (Or.inr (by decide)) (Or.inr (by decide)) (Or.inr (by decide))).trans pf8
    have pf9 := (yz21190.1 _ 9 (Or.inr (by decide)) (Or.inl (by rw [gx0]; decide)) (Or.inr (by decide)) (Or.inr (by decide)) (Or.inr (by decide)) (Or.inr (by decide)) (Or.inr (by decide)) (Or.inr (by decide))).trans pf9
    have pf10 := (yz21190.1 _ 10 (Or.inr (by decide)) (Or.inr (by decide)) (Or.inl (by rw [gx0]; decide)) (Or.inr (by decide)) (Or.inr (by decide)) (Or.inr (by decide)) (Or.inr (by decide)) (Or.inr (by decide))).trans pf10
    have pf11 := (yz21190.1 _ 0 (Or.inr (by decide)) (Or.inr (by decide)) (Or.inr (by decide)) (Or.inr (by decide)) (Or.inr (by decide)) (Or.inr (by decide)) (Or.inr (by decide)) (Or.inr (by decide))).trans pf11
    have hfr : (∀ b j : Nat, (tag b ≠ 44 ∨ j ≠ 8) → (tag b ≠ 44 ∨ j ≠ 12) → (tag b ≠ 46 ∨ j ≠ 8) → (tag b ≠ 46 ∨ j ≠ 9) → (tag b ≠ 46 ∨ j ≠ 10) → (tag b ≠ 46 ∨ j ≠ 11) → (tag b ≠ 46 ∨ j ≠ 12) → (tag b ≠ 46 ∨ j ≠ 13) → (tag b ≠ 46 ∨ j ≠ 14) → (tag b ≠ 46 ∨ j ≠ 15) → fld F b j = fld Fo b j) ∧ (∀ b j : Nat, tag b ≠ 30 → tag b ≠ 31 → tag b ≠ 34 → tag b ≠ 35 → tag b ≠ 36 → tag b ≠ 37 → elm F b j = elm Fo b j) := ⟨fun b j n44_8 n44_12 n46_8 n46_9 n46_10 n46_11 n46_12 n46_13 n46_14 n46_15 => (yz21190.1 b j n46_8 n46_9 n46_10 n46_11 n46_12 n46_13 n46_14 n46_15).trans (hfr.1 b j n44_8 n44_12 n46_8 n46_9 n46_10 n46_11 n46_12 n46_13 n46_14 n46_15), fun b j a30 a31 a34 a35 a36 a37 => (yz21190.2 b j ).trans (hfr.2 b j a30 a31 a34 a35 a36 a37)⟩
    have hrel := msr_of (fun j => yz21190.2 _ j ) (fun j => yz21190.2 _ j ) hrel
    have hstk := STK.tr hstk stz21190
    have hspt := SPT.tr hspt ptz21190
    have k5z21190 : soz21190.toInt = 5 := stz21190 (by omega)
    refine lv_istore (lv' := [(6, .int z21190), (5, .int z21189), (4, .int z21188), (3, .int z21182), (1, .long z21180), (0, .ref p0)]) hx hb dX13_readHouse_131 hl (by decide) rfl (fun ls hl => ?_)
    refine lv_aload_n hx hb dX13_readHouse_133 rfl (lv_at hl 5 rfl) ?_
    refine t_get (C := RX13) (T := TX13) (N := 37) X hT m0 g0 rfl rfl 9 (by decide) qw_478 inlX13 rfl dX13_readHouse_134 (fun v21191 hv21191 ov21191 => ?_)
    obtain rfl : v21191 = .int soz21190 := hv21191.symm.trans qsoz21190
    refine lv_iconst (v := 5) hx hb dX13_readHouse_137 (by decide) ?_
    refine lv_icmp_ne (tgt := 142) hx hb dX13_readHouse_138 (by decide) (fun c21192 => ?_) (fun c21192 => ?_)
    · have w21193 := cv_ne (rfl : soz21190.toInt = soz21190.toInt) (by decide : (5 : Int32).toInt = 5) c21192
      exfalso
      omega
    · have w21194 := cv_eq (rfl : soz21190.toInt = soz21190.toInt) (by decide : (5 : Int32).toInt = 5) c21192
      exact t_vret hQ X hT ⟨hfr, hrel, ⟨soz21190, spz21190, faz21190, qsoz21190, qspz21190, qfaz21190, (by omega), (by omega), (by omega), hstk, hspt, hkf⟩, ⟨x6, x7, x8, x9, x10, x11, pf6, pf7, pf8, pf9, pf10, pf11, (by omega), (by omega), (by omega), (by omega), (by omega), (by omega), hpl⟩⟩ (Nat.le_of_ble_eq_true rfl) (Nat.le_of_ble_eq_true rfl) dX13_readHouse_141
  · have w21195 := cv_ne (rfl : soz21182.toInt = soz21182.toInt) (by decide : (5 : Int32).toInt = 5) c21184
    have w21196 := (fun (h9 : soz21182.toInt ≠ 5) => (fun (h9 : soz21181.toInt ≠ 5) => (fun (h9 : soz21180.toInt ≠ 5) => pxz21178_0 (fun e9 => h9 (stz21180 e9))) (fun e9 => h9 (stz21181 e9))) (fun e9 => h9 (stz21182 e9))) (by omega)
    have w21197 := (fun (h9 : soz21182.toInt ≠ 5) => (fun (h9 : soz21181.toInt ≠ 5) => (fun (h9 : soz21180.toInt ≠ 5) => pxz21178_0 (fun e9 => h9 (stz21180 e9))) (fun e9 => h9 (stz21181 e9))) (fun e9 => h9 (stz21182 e9))) (by omega)
    refine lv_aload_n hx hb dX13_readHouse_37 rfl (lv_at hl 2 rfl) ?_
    refine t_get (C := RX13) (T := TX13) (N := 37) X hT m0 g0 rfl rfl 4 (by decide) qw_477 inlX13 rfl dX13_readHouse_38 (fun v21198 hv21198 ov21198 => ?_)
    obtain rfl : v21198 = .ref x0 := hv21198.symm.trans pf0
    refine t_getN (C := RX12) (T := TX12) (N := 31) X hT mx0 gx0 rfl rfl 15 (by decide) (List.mem_of_getElem? (i := 19) rfl) inlX12 rfl dX13_readHouse_41 (fun v21199 hv21199 ov21199 => ?_)
    obtain ⟨b21200, rfl, mb21200, gb21200⟩ := okV_r ov21199
    have gb21200 : tag b21200 = 28 := tg_of gb21200
    refine lv_iload_n hx hb dX13_readHouse_44 rfl (lv_at hl 0 rfl) ?_
    refine t_zld X hT mb21200 gb21200 rfl (by omega) dX13_readHouse_45 (fun z21201 vz21201 rz21201 => ?_)
    have rz21201 : 0 ≤ z21201.toInt ∧ z21201.toInt ≤ 1 := rz21201
    refine lv_if_ne (tgt := 84) hx hb dX13_readHouse_46 (by decide) (fun c21202 => ?_) (fun c21202 => ?_)
    · have w21203 := cv_ne (rfl : z21201.toInt = z21201.toInt) (by decide : (0 : Int32).toInt = 0) c21202
      refine lv_aload_n hx hb dX13_readHouse_84 rfl (lv_at hl 2 rfl) ?_
      refine lv_bipush (v := 7) hx hb dX13_readHouse_85 (by decide) ?_
      refine t_cVv (n := 1) (C := RX13) (T := TX13) (N := 37) (As := [.int 7]) (rest := []) X hT (km10_X13_flaw l G tag L F hT.2.2.2 p0 7 x0 x1 x2 soz21182 spz21182 faz21182 m0 g0 (by decide) mx0 gx0 pf0 mx1 gx1 pf1 mx2 gx2 pf2 (by omega) qsoz21182 (by omega) qspz21182 (by omega) qfaz21182 hkf) m0 g0 rfl rfl qw_548 qw_549 qw_550 qw_5 qw_551 ⟨rfl, by decide +kernel, by decide +kernel, by decide +kernel⟩ ⟨Nat.le_of_ble_eq_true rfl, Nat.le_of_ble_eq_true rfl⟩ hl rfl rfl (Nat.le_of_ble_eq_true rfl) dX13_readHouse_87 ⟨Nat.le_of_ble_eq_true rfl, Nat.le_of_ble_eq_true rfl⟩ (fun F H locs hT hz21204 => ?_)
      obtain ⟨yz21204, ⟨soz21204, spz21204, faz21204, qsoz21204, qspz21204, qfaz21204, rsoz21204, rspz21204, rfaz21204, stz21204, ptz21204, hkf, pxz21204_0⟩⟩ := hz21204
      have pf0 := (yz21204.1 _ 4 (Or.inr (by decide)) (Or.inr (by decide)) (Or.inr (by decide))).trans pf0
      have pf1 := (yz21204.1 _ 28 (Or.inr (by decide)) (Or.inr (by decide)) (Or.inr (by decide))).trans pf1
      have pf2 := (yz21204.1 _ 29 (Or.inr (by decide)) (Or.inr (by decide)) (Or.inr (by decide))).trans pf2
      have pf6 := (yz21204.1 _ 12 (Or.inr (by decide)) (Or.inr (by decide)) (Or.inr (by decide))).trans pf6
      have pf7 := (yz21204.1 _ 7 (Or.inr (by decide)) (Or.inr (by decide)) (Or.inr (by decide))).trans pf7
      have pf8 := (yz21204.1 _ 8 (Or.inr (by decide)) (Or.inr (by decide)) (Or.inr (by decide))).trans pf8
      have pf9 := (yz21204.1 _ 9 (Or.inl (by rw [gx0]; decide)) (Or.inr (by decide)) (Or.inr (by decide))).trans pf9
      have pf10 := (yz21204.1 _ 10 (Or.inr (by decide)) (Or.inr (by decide)) (Or.inr (by decide))).trans pf10
      have pf11 := (yz21204.1 _ 0 (Or.inr (by decide)) (Or.inr (by decide)) (Or.inr (by decide))).trans pf11
      have qspz21182 := (yz21204.1 _ 8 (Or.inr (by decide)) (Or.inr (by decide)) (Or.inr (by decide))).trans qspz21182
      have hv21199 := (yz21204.1 _ 15 (Or.inr (by decide)) (Or.inr (by decide)) (Or.inr (by decide))).trans hv21199
      have vz21201 := (yz21204.2 _ _ ).trans vz21201
      have hfr : (∀ b j : Nat, (tag b ≠ 44 ∨ j ≠ 8) → (tag b ≠ 44 ∨ j ≠ 12) → (tag b ≠ 46 ∨ j ≠ 8) → (tag b ≠ 46 ∨ j ≠ 9) → (tag b ≠ 46 ∨ j ≠ 10) → (tag b ≠ 46 ∨ j ≠ 11) → (tag b ≠ 46 ∨ j ≠ 12) → (tag b ≠ 46 ∨ j ≠ 13) → (tag b ≠ 46 ∨ j ≠ 14) → (tag b ≠ 46 ∨ j ≠ 15) → fld F b j = fld Fo b j) ∧ (∀ b j : Nat, tag b ≠ 30 → tag b ≠ 31 → tag b ≠ 34 → tag b ≠ 35 → tag b ≠ 36 → tag b ≠ 37 → elm F b j = elm Fo b j) := ⟨fun b j n44_8 n44_12 n46_8 n46_9 n46_10 n46_11 n46_12 n46_13 n46_14 n46_15 => (yz21204.1 b j n46_9 n46_13 n46_14).trans (hfr.1 b j n44_8 n44_12 n46_8 n46_9 n46_10 n46_11 n46_12 n46_13 n46_14 n46_15), fun b j a30 a31 a34 a35 a36 a37 => (yz21204.2 b j ).trans (hfr.2 b j a30 a31 a34 a35 a36 a37)⟩
      have hrel := msr_of (fun j => yz21204.2 _ j ) (fun j => yz21204.2 _ j ) hrel
      have hstk := STK.tr hstk stz21204
      have hspt := SPT.tr hspt ptz21204
      refine lv_aload_n hx hb dX13_readHouse_90 rfl (lv_at hl 2 rfl) ?_
      refine t_cVv (n := 0) (C := RX13) (T := TX13) (N := 37) (As := []) (rest := []) X hT (km14_X13_goesOn l G tag L F hT.2.2.2 p0 x0 x1 x2 soz21204 spz21204 faz21204 m0 g0 mx0 gx0 pf0 mx1 gx1 pf1 mx2 gx2 pf2 (by omega) qsoz21204 (by omega) qspz21204 (by omega) qfaz21204 hkf) m0 g0 rfl rfl qw_508 qw_509 qw_510 qw_5 qw_511 ⟨rfl, by decide +kernel, by decide +kernel, by decide +kernel⟩ ⟨Nat.le_of_ble_eq_true rfl, Nat.le_of_ble_eq_true rfl⟩ hl rfl rfl (Nat.le_of_ble_eq_true rfl) dX13_readHouse_91 ⟨Nat.le_of_ble_eq_true rfl, Nat.le_of_ble_eq_true rfl⟩ (fun F H locs hT hz21205 => ?_)
      obtain ⟨yz21205, ⟨soz21205, spz21205, faz21205, qsoz21205, qspz21205, qfaz21205, rsoz21205, rspz21205, rfaz21205, stz21205, ptz21205, hkf⟩⟩ := hz21205
      have pf0 := (yz21205.1 _ 4 (Or.inr (by decide)) (Or.inr (by decide)) (Or.inr (by decide)) (Or.inr (by decide)) (Or.inr (by decide)) (Or.inr (by decide))).trans pf0
      have pf1 := (yz21205.1 _ 28 (Or.inr (by decide)) (Or.inr (by decide)) (Or.inr (by decide)) (Or.inr (by decide)) (Or.inr (by decide)) (Or.inr (by decide))).trans pf1
      have pf2 := (yz21205.1 _ 29 (Or.inr (by decide)) (Or.inr (by decide)) (Or.inr (by decide)) (Or.inr (by decide)) (Or.inr (by decide)) (Or.inr (by decide))).trans pf2
      have pf6 := (yz21205.1 _ 12 (Or.inr (by decide)) (Or.inr (by decide)) (Or.inr (by decide)) (Or.inr (by decide)) (Or.inl (by rw [gx0]; decide)) (Or.inr (by decide))).trans pf6
      have pf7 := (yz21205.1 _ 7 (Or.inr (by decide)) (Or.inr (by decide)) (Or.inr (by decide)) (Or.inr (by decide)) (Or.inr (by decide)) (Or.inr (by decide))).trans pf7
      have pf8 := (yz21205.1 _ 8 (Or.inl (by rw [gx0]; decide)) (Or.inr (by decide)) (Or.inr (by decide)) (Or.inr (by decide)) (Or.inr (by decide)) (Or.inr (by decide))).trans pf8
      have pf9 := (yz21205.1 _ 9 (Or.inr (by decide)) (Or.inl (by rw [gx0]; decide)) (Or.inr (by decide)) (Or.inr (by decide)) (Or.inr (by decide)) (Or.inr (by decide))).trans pf9
      have pf10 := (yz21205.1 _ 10 (Or.inr (by decide)) (Or.inr (by decide)) (Or.inl (by rw [gx0]; decide)) (Or.inr (by decide)) (Or.inr (by decide)) (Or.inr (by decide))).trans pf10
      have pf11 := (yz21205.1 _ 0 (Or.inr (by decide)) (Or.inr (by decide)) (Or.inr (by decide)) (Or.inr (by decide)) (Or.inr (by decide)) (Or.inr (by decide))).trans pf11
      have hv21199 := (yz21205.1 _ 15 (Or.inr (by decide)) (Or.inr (by decide)) (Or.inr (by decide)) (Or.inr (by decide)) (Or.inr (by decide)) (Or.inl (by rw [gx0]; decide))).trans hv21199
      have vz21201 := (yz21205.2 _ _ ).trans vz21201
      have qfaz21204 := (yz21205.1 _ 13 (Or.inr (by decide)) (Or.inr (by decide)) (Or.inr (by decide)) (Or.inr (by decide)) (Or.inr (by decide)) (Or.inr (by decide))).trans qfaz21204
      have hfr : (∀ b j : Nat, (tag b ≠ 44 ∨ j ≠ 8) → (tag b ≠ 44 ∨ j ≠ 12) → (tag b ≠ 46 ∨ j ≠ 8) → (tag b ≠ 46 ∨ j ≠ 9) → (tag b ≠ 46 ∨ j ≠ 10) → (tag b ≠ 46 ∨ j ≠ 11) → (tag b ≠ 46 ∨ j ≠ 12) → (tag b ≠ 46 ∨ j ≠ 13) → (tag b ≠ 46 ∨ j ≠ 14) → (tag b ≠ 46 ∨ j ≠ 15) → fld F b j = fld Fo b j) ∧ (∀ b j : Nat, tag b ≠ 30 → tag b ≠ 31 → tag b ≠ 34 → tag b ≠ 35 → tag b ≠ 36 → tag b ≠ 37 → elm F b j = elm Fo b j) := ⟨fun b j n44_8 n44_12 n46_8 n46_9 n46_10 n46_11 n46_12 n46_13 n46_14 n46_15 => (yz21205.1 b j n46_8 n46_9 n46_10 n46_11 n46_12 n46_15).trans (hfr.1 b j n44_8 n44_12 n46_8 n46_9 n46_10 n46_11 n46_12 n46_13 n46_14 n46_15), fun b j a30 a31 a34 a35 a36 a37 => (yz21205.2 b j ).trans (hfr.2 b j a30 a31 a34 a35 a36 a37)⟩
      have hrel := msr_of (fun j => yz21205.2 _ j ) (fun j => yz21205.2 _ j ) hrel
      have hstk := STK.tr hstk stz21205
      have hspt := SPT.tr hspt ptz21205
      have k5z21205 : soz21205.toInt = 5 := stz21205 (by omega)
      refine lv_aload_n hx hb dX13_readHouse_94 rfl (lv_at hl 2 rfl) ?_
      refine m_ldcKw X 69 rfl dX13_readHouse_95 ?_
      refine t_cVv (n := 1) (C := RX13) (T := TX13) (N := 37) (As := [.ref (G.2 (100 + 69))]) (rest := []) X hT (km40_X13_needs l G tag L F hT.2.2.2 p0 69 x0 x1 x2 soz21205 spz21205 faz21205 m0 g0 (by decide) mx0 gx0 pf0 mx1 gx1 pf1 mx2 gx2 pf2 (by omega) qsoz21205 (by omega) qspz21205 (by omega) qfaz21205 hkf) m0 g0 rfl rfl qw_556 qw_557 qw_558 qw_5 qw_559 ⟨rfl, by decide +kernel, by decide +kernel, by decide +kernel⟩ ⟨Nat.le_of_ble_eq_true rfl, Nat.le_of_ble_eq_true rfl⟩ hl rfl rfl (Nat.le_of_ble_eq_true rfl) dX13_readHouse_98 ⟨Nat.le_of_ble_eq_true rfl, Nat.le_of_ble_eq_true rfl⟩ (fun F H locs hT hz21206 => ?_)
      obtain ⟨yz21206, ⟨soz21206, spz21206, faz21206, qsoz21206, qspz21206, qfaz21206, rsoz21206, rspz21206, rfaz21206, stz21206, ptz21206, hkf⟩⟩ := hz21206
      have pf0 := (yz21206.1 _ 4 (Or.inr (by decide)) (Or.inr (by decide)) (Or.inr (by decide)) (Or.inr (by decide)) (Or.inr (by decide)) (Or.inr (by decide)) (Or.inr (by decide)) (Or.inr (by decide))).trans pf0
      have pf1 := (yz21206.1 _ 28 (Or.inr (by decide)) (Or.inr (by decide)) (Or.inr (by decide)) (Or.inr (by decide)) (Or.inr (by decide)) (Or.inr (by decide)) (Or.inr (by decide)) (Or.inr (by decide))).trans pf1
      have pf2 := (yz21206.1 _ 29 (Or.inr (by decide)) (Or.inr (by decide)) (Or.inr (by decide)) (Or.inr (by decide)) (Or.inr (by decide)) (Or.inr (by decide)) (Or.inr (by decide)) (Or.inr (by decide))).trans pf2
      have pf6 := (yz21206.1 _ 12 (Or.inr (by decide)) (Or.inr (by decide)) (Or.inr (by decide)) (Or.inr (by decide)) (Or.inl (by rw [gx0]; decide)) (Or.inr (by decide)) (Or.inr (by decide)) (Or.inr (by decide))).trans pf6
      have pf7 := (yz21206.1 _ 7 (Or.inr (by decide)) (Or.inr (by decide)) (Or.inr (by decide)) (Or.inr (by decide)) (Or.inr (by decide)) (Or.inr (by decide)) (Or.inr (by decide)) (Or.inr (by decide))).trans pf7
      have pf8 := (yz21206.1 _ 8 (Or.inl (by rw [gx0]; decide)) (Or.inr (by decide)) (Or.inr (by decide)) (Or.inr (by decide)) (Or.inr (by decide)) (Or.inr (by decide)) (Or.inr (by decide)) (Or.inr (by decide))).trans pf8
      have pf9 := (yz21206.1 _ 9 (Or.inr (by decide)) (Or.inl (by rw [gx0]; decide)) (Or.inr (by decide)) (Or.inr (by decide)) (Or.inr (by decide)) (Or.inr (by decide)) (Or.inr (by decide)) (Or.inr (by decide))).trans pf9
      have pf10 := (yz21206.1 _ 10 (Or.inr (by decide)) (Or.inr (by decide)) (Or.inl (by rw [gx0]; decide)) (Or.inr (by decide)) (Or.inr (by decide)) (Or.inr (by decide)) (Or.inr (by decide)) (Or.inr (by decide))).trans pf10
      have pf11 := (yz21206.1 _ 0 (Or.inr (by decide)) (Or.inr (by decide)) (Or.inr (by decide)) (Or.inr (by decide)) (Or.inr (by decide)) (Or.inr (by decide)) (Or.inr (by decide)) (Or.inr (by decide))).trans pf11
      have hv21199 := (yz21206.1 _ 15 (Or.inr (by decide)) (Or.inr (by decide)) (Or.inr (by decide)) (Or.inr (by decide)) (Or.inr (by decide)) (Or.inr (by decide)) (Or.inr (by decide)) (Or.inl (by rw [gx0]; decide))).trans hv21199
      have vz21201 := (yz21206.2 _ _ ).trans vz21201
      have hfr : (∀ b j : Nat, (tag b ≠ 44 ∨ j ≠ 8) → (tag b ≠ 44 ∨ j ≠ 12) → (tag b ≠ 46 ∨ j ≠ 8) → (tag b ≠ 46 ∨ j ≠ 9) → (tag b ≠ 46 ∨ j ≠ 10) → (tag b ≠ 46 ∨ j ≠ 11) → (tag b ≠ 46 ∨ j ≠ 12) → (tag b ≠ 46 ∨ j ≠ 13) → (tag b ≠ 46 ∨ j ≠ 14) → (tag b ≠ 46 ∨ j ≠ 15) → fld F b j = fld Fo b j) ∧ (∀ b j : Nat, tag b ≠ 30 → tag b ≠ 31 → tag b ≠ 34 → tag b ≠ 35 → tag b ≠ 36 → tag b ≠ 37 → elm F b j = elm Fo b j) := ⟨fun b j n44_8 n44_12 n46_8 n46_9 n46_10 n46_11 n46_12 n46_13 n46_14 n46_15 => (yz21206.1 b j n46_8 n46_9 n46_10 n46_11 n46_12 n46_13 n46_14 n46_15).trans (hfr.1 b j n44_8 n44_12 n46_8 n46_9 n46_10 n46_11 n46_12 n46_13 n46_14 n46_15), fun b j a30 a31 a34 a35 a36 a37 => (yz21206.2 b j ).trans (hfr.2 b j a30 a31 a34 a35 a36 a37)⟩
      have hrel := msr_of (fun j => yz21206.2 _ j ) (fun j => yz21206.2 _ j ) hrel
      have hstk := STK.tr hstk stz21206
      have hspt := SPT.tr hspt ptz21206
      have k5z21206 : soz21206.toInt = 5 := stz21206 (by omega)
      refine lv_aload_n hx hb dX13_readHouse_101 rfl (lv_at hl 2 rfl) ?_
      refine lv_iconst (v := 0) hx hb dX13_readHouse_102 (by decide) ?_
      refine t_cVi (n := 1) (C := RX13) (T := TX13) (N := 37) (As := [.int 0]) (rest := []) X hT (km36_X13_readKnown l G tag L F hT.2.2.2 p0 0 x0 x1 x2 soz21206 spz21206 faz21206 m0 g0 (by decide) mx0 gx0 pf0 mx1 gx1 pf1 mx2 gx2 pf2 (by omega) qsoz21206 (by omega) qspz21206 (by omega) qfaz21206 hrel hkf) m0 g0 rfl rfl qw_632 qw_633 qw_634 qw_5 qw_635 ⟨rfl, by decide +kernel, by decide +kernel, by decide +kernel⟩ ⟨Nat.le_of_ble_eq_true rfl, Nat.le_of_ble_eq_true rfl⟩ hl rfl rfl (Nat.le_of_ble_eq_true rfl) dX13_readHouse_103 ⟨Nat.le_of_ble_eq_true rfl, Nat.le_of_ble_eq_true rfl⟩ (fun z21207 F H locs hT hz21207 => ?_)
      obtain ⟨hz21207, yz21207, hrel, ⟨soz21207, spz21207, faz21207, qsoz21207, qspz21207, qfaz21207, rsoz21207, rspz21207, rfaz21207, stz21207, ptz21207, hkf⟩⟩ := hz21207
      have pf0 := (yz21207.1 _ 4 (Or.inr (by decide)) (Or.inr (by decide)) (Or.inr (by decide)) (Or.inr (by decide)) (Or.inr (by decide)) (Or.inr (by decide)) (Or.inr (by decide)) (Or.inr (by decide))).trans pf0
      have pf1 := (yz21207.1 _ 28 (Or.inr (by decide)) (Or.inr (by decide)) (Or.inr (by decide)) (Or.inr (by decide)) (Or.inr (by decide)) (Or.inr (by decide)) (Or.inr (by decide)) (Or.inr (by decide))).trans pf1
      have pf2 := (yz21207.1 _ 29 (Or.inr (by decide)) (Or.inr (by decide)) (Or.inr (by decide)) (Or.inr (by decide)) (Or.inr (by decide)) (Or.inr (by decide)) (Or.inr (by decide)) (Or.inr (by decide))).trans pf2
      have pf6 := (yz21207.1 _ 12 (Or.inr (by decide)) (Or.inr (by decide)) (Or.inr (by decide)) (Or.inr (by decide)) (Or.inl (by rw [gx0]; decide)) (Or.inr (by decide)) (Or.inr (by decide)) (Or.inr (by decide))).trans pf6
      have pf7 := (yz21207.1 _ 7 (Or.inr (by decide)) (Or.inr (by decide)) (Or.inr (by decide)) (Or.inr (by decide)) (Or.inr (by decide)) (Or.inr (by decide)) (Or.inr (by decide)) (Or.inr (by decide))).trans pf7
      have pf8 := (yz21207.1 _ 8 (Or.inl (by rw [gx0]; decide)) (Or.inr (by decide)) (Or.inr (by decide)) (Or.inr (by decide)) (Or.inr (by decide)) (Or.inr (by decide)) (Or.inr (by decide)) (Or.inr (by decide))).trans pf8
      have pf9 := (yz21207.1 _ 9 (Or.inr (by decide)) (Or.inl (by rw [gx0]; decide)) (Or.inr (by decide)) (Or.inr (by decide)) (Or.inr (by decide)) (Or.inr (by decide)) (Or.inr (by decide)) (Or.inr (by decide))).trans pf9
      have pf10 := (yz21207.1 _ 10 (Or.inr (by decide)) (Or.inr (by decide)) (Or.inl (by rw [gx0]; decide)) (Or.inr (by decide)) (Or.inr (by decide)) (Or.inr (by decide)) (Or.inr (by decide)) (Or.inr (by decide))).trans pf10
      have pf11 := (yz21207.1 _ 0 (Or.inr (by decide)) (Or.inr (by decide)) (Or.inr (by decide)) (Or.inr (by decide)) (Or.inr (by decide)) (Or.inr (by decide)) (Or.inr (by decide)) (Or.inr (by decide))).trans pf11
      have hv21199 := (yz21207.1 _ 15 (Or.inr (by decide)) (Or.inr (by decide)) (Or.inr (by decide)) (Or.inr (by decide)) (Or.inr (by decide)) (Or.inr (by decide)) (Or.inr (by decide)) (Or.inl (by rw [gx0]; decide))).trans hv21199
      have vz21201 := (yz21207.2 _ _ ).trans vz21201
      have hfr : (∀ b j : Nat, (tag b ≠ 44 ∨ j ≠ 8) → (tag b ≠ 44 ∨ j ≠ 12) → (tag b ≠ 46 ∨ j ≠ 8) → (tag b ≠ 46 ∨ j ≠ 9) → (tag b ≠ 46 ∨ j ≠ 10) → (tag b ≠ 46 ∨ j ≠ 11) → (tag b ≠ 46 ∨ j ≠ 12) → (tag b ≠ 46 ∨ j ≠ 13) → (tag b ≠ 46 ∨ j ≠ 14) → (tag b ≠ 46 ∨ j ≠ 15) → fld F b j = fld Fo b j) ∧ (∀ b j : Nat, tag b ≠ 30 → tag b ≠ 31 → tag b ≠ 34 → tag b ≠ 35 → tag b ≠ 36 → tag b ≠ 37 → elm F b j = elm Fo b j) := ⟨fun b j n44_8 n44_12 n46_8 n46_9 n46_10 n46_11 n46_12 n46_13 n46_14 n46_15 => (yz21207.1 b j n46_8 n46_9 n46_10 n46_11 n46_12 n46_13 n46_14 n46_15).trans (hfr.1 b j n44_8 n44_12 n46_8 n46_9 n46_10 n46_11 n46_12 n46_13 n46_14 n46_15), fun b j a30 a31 a34 a35 a36 a37 => (yz21207.2 b j ).trans (hfr.2 b j a30 a31 a34 a35 a36 a37)⟩
      have hstk := STK.tr hstk stz21207
      have hspt := SPT.tr hspt ptz21207
      have k5z21207 : soz21207.toInt = 5 := stz21207 (by omega)
      refine lv_istore (lv' := [(4, .int z21207), (3, .int z21182), (1, .long z21180), (0, .ref p0)]) hx hb dX13_readHouse_106 hl (by decide) rfl (fun ls hl => ?_)
      refine lv_aload_n hx hb dX13_readHouse_108 rfl (lv_at hl 3 rfl) ?_
      refine m_ldcKw X 70 rfl dX13_readHouse_109 ?_
      refine lv_iconst (v := 0) hx hb dX13_readHouse_112 (by decide) ?_
      refine lv_bipush (v := 99) hx hb dX13_readHouse_113 (by decide) ?_
      refine t_cVi (n := 3) (C := RX13) (T := TX13) (N := 37) (As := [.ref (G.2 (100 + 70)), .int 0, .int 99]) (rest := []) X hT (km43_X13_readPart l G tag L F hT.2.2.2 p0 70 0 99 x0 x1 x2 soz21207 spz21207 faz21207 m0 g0 (by decide) (by decide) (by decide) mx0 gx0 pf0 mx1 gx1 pf1 mx2 gx2 pf2 (by omega) qsoz21207 (by omega) qspz21207 (by omega) qfaz21207 hkf) m0 g0 rfl rfl qw_552 qw_553 qw_554 qw_5 qw_555 ⟨rfl, by decide +kernel, by decide +kernel, by decide +kernel⟩ ⟨Nat.le_of_ble_eq_true rfl, Nat.le_of_ble_eq_true rfl⟩ hl rfl rfl (Nat.le_of_ble_eq_true rfl) dX13_readHouse_115 ⟨Nat.le_of_ble_eq_true rfl, Nat.le_of_ble_eq_true rfl⟩ (fun z21208 F H locs hT hz21208 => ?_)
      obtain ⟨hz21208, yz21208, ⟨soz21208, spz21208, faz21208, qsoz21208, qspz21208, qfaz21208, rsoz21208, rspz21208, rfaz21208, stz21208, ptz21208, hkf⟩⟩ := hz21208
      have pf0 := (yz21208.1 _ 4 (Or.inr (by decide)) (Or.inr (by decide)) (Or.inr (by decide)) (Or.inr (by decide)) (Or.inr (by decide)) (Or.inr (by decide)) (Or.inr (by decide)) (Or.inr (by decide))).trans pf0
      have pf1 := (yz21208.1 _ 28 (Or.inr (by decide)) (Or.inr (by decide)) (Or.inr (by decide)) (Or.inr (by decide)) (Or.inr (by decide)) (Or.inr (by decide)) (Or.inr (by decide)) (Or.inr (by decide))).trans pf1
      have pf2 := (yz21208.1 _ 29 (Or.inr (by decide)) (Or.inr (by decide)) (Or.inr (by decide)) (Or.inr (by decide)) (Or.inr (by decide)) (Or.inr (by decide)) (Or.inr (by decide)) (Or.inr (by decide))).trans pf2
      have pf6 := (yz21208.1 _ 12 (Or.inr (by decide)) (Or.inr (by decide)) (Or.inr (by decide)) (Or.inr (by decide)) (Or.inl (by rw [gx0]; decide)) (Or.inr (by decide)) (Or.inr (by decide)) (Or.inr (by decide))).trans pf6
      have pf7 := (yz21208.1 _ 7 (Or.inr (by decide)) (Or.inr (by decide)) (Or.inr (by decide)) (Or.inr (by decide)) (Or.inr (by decide)) (Or.inr (by decide)) (Or.inr (by decide)) (Or.inr (by decide))).trans pf7
      have pf8 := (yz21208.1 _ 8 (Or.inl (by rw [gx0]; decide)) (Or.inr (by decide)) (Or.inr (by decide)) (Or.inr (by decide)) (Or.inr (by decide)) (Or.inr (by decide)) (Or.inr (by decide)) (Or.inr (by decide))).trans pf8
      have pf9 := (yz21208.1 _ 9 (Or.inr (by decide)) (Or.inl (by rw [gx0]; decide)) (Or.inr (by decide)) (Or.inr (by decide)) (Or.inr (by decide)) (Or.inr (by decide)) (Or.inr (by decide)) (Or.inr (by decide))).trans pf9
      have pf10 := (yz21208.1 _ 10 (Or.inr (by decide)) (Or.inr (by decide)) (Or.inl (by rw [gx0]; decide)) (Or.inr (by decide)) (Or.inr (by decide)) (Or.inr (by decide)) (Or.inr (by decide)) (Or.inr (by decide))).trans pf10
      have pf11 := (yz21208.1 _ 0 (Or.inr (by decide)) (Or.inr (by decide)) (Or.inr (by decide)) (Or.inr (by decide)) (Or.inr (by decide)) (Or.inr (by decide)) (Or.inr (by decide)) (Or.inr (by decide))).trans pf11
      have hv21199 := (yz21208.1 _ 15 (Or.inr (by decide)) (Or.inr (by decide)) (Or.inr (by decide)) (Or.inr (by decide)) (Or.inr (by decide)) (Or.inr (by decide)) (Or.inr (by decide)) (Or.inl (by rw [gx0]; decide))).trans hv21199
      have vz21201 := (yz21208.2 _ _ ).trans vz21201
      have hfr : (∀ b j : Nat, (tag b ≠ 44 ∨ j ≠ 8) → (tag b ≠ 44 ∨ j ≠ 12) → (tag b ≠ 46 ∨ j ≠ 8) → (tag b ≠ 46 ∨ j ≠ 9) → (tag b ≠ 46 ∨ j ≠ 10) → (tag b ≠ 46 ∨ j ≠ 11) → (tag b ≠ 46 ∨ j ≠ 12) → (tag b ≠ 46 ∨ j ≠ 13) → (tag b ≠ 46 ∨ j ≠ 14) → (tag b ≠ 46 ∨ j ≠ 15) → fld F b j = fld Fo b j) ∧ (∀ b j : Nat, tag b ≠ 30 → tag b ≠ 31 → tag b ≠ 34 → tag b ≠ 35 → tag b ≠ 36 → tag b ≠ 37 → elm F b j = elm Fo b j) := ⟨fun b j n44_8 n44_12 n46_8 n46_9 n46_10 n46_11 n46_12 n46_13 n46_14 n46_15 => (yz21208.1 b j n46_8 n46_9 n46_10 n46_11 n46_12 n46_13 n46_14 n46_15).trans (hfr.1 b j n44_8 n44_12 n46_8 n46_9 n46_10 n46_11 n46_12 n46_13 n46_14 n46_15), fun b j a30 a31 a34 a35 a36 a37 => (yz21208.2 b j ).trans (hfr.2 b j a30 a31 a34 a35 a36 a37)⟩
      have hrel := msr_of (fun j => yz21208.2 _ j ) (fun j => yz21208.2 _ j ) hrel
      have hstk := STK.tr hstk stz21208
      have hspt := SPT.tr hspt ptz21208
      have k5z21208 : soz21208.toInt = 5 := stz21208 (by omega)
      refine lv_istore (lv' := [(5, .int z21208), (4, .int z21207), (3, .int z21182), (1, .long z21180), (0, .ref p0)]) hx hb dX13_readHouse_118 hl (by decide) rfl (fun ls hl => ?_)
      refine lv_aload_n hx hb dX13_readHouse_120 rfl (lv_at hl 4 rfl) ?_
      refine m_ldcKw X 71 rfl dX13_readHouse_121 ?_
      refine lv_iconst (v := 0) hx hb dX13_readHouse_124 (by decide) ?_
      refine lv_sipush (v := 999) hx hb dX13_readHouse_125 (by decide) ?_
      refine t_cVi (n := 3) (C := RX13) (T := TX13) (N := 37) (As := [.ref (G.2 (100 + 71)), .int 0, .int 999]) (rest := []) X hT (km56_X13_readPart l G tag L F hT.2.2.2 p0 71 0 999 x0 x1 x2 soz21208 spz21208 faz21208 m0 g0 (by decide) (by decide) (by decide) mx0 gx0 pf0 mx1 gx1 pf1 mx2 gx2 pf2 (by omega) qsoz21208 (by omega) qspz21208 (by omega) qfaz21208 hkf) m0 g0 rfl rfl qw_552 qw_553 qw_554 qw_5 qw_555 ⟨rfl, by decide +kernel, by decide +kernel, by decide +kernel⟩ ⟨Nat.le_of_ble_eq_true rfl, Nat.le_of_ble_eq_true rfl⟩ hl rfl rfl (Nat.le_of_ble_eq_true rfl) dX13_readHouse_128 ⟨Nat.le_of_ble_eq_true rfl, Nat.le_of_ble_eq_true rfl⟩ (fun z21209 F H locs hT hz21209 => ?_)
      obtain ⟨hz21209, yz21209, ⟨soz21209, spz21209, faz21209, qsoz21209, qspz21209, qfaz21209, rsoz21209, rspz21209, rfaz21209, stz21209, ptz21209, hkf⟩⟩ := hz21209
      have pf0 := (yz21209.1 _ 4 (Or.inr (by decide)) (Or.inr (by decide)) (Or.inr (by decide)) (Or.inr (by decide)) (Or.inr (by decide)) (Or.inr (by decide)) (Or.inr (by decide)) (Or.inr (by decide))).trans pf0
      have pf1 := (yz21209.1 _ 28 (Or.inr (by decide)) (Or.inr (by decide)) (Or.inr (by decide)) (Or.inr (by decide)) (Or.inr (by decide)) (Or.inr (by decide)) (Or.inr (by decide)) (Or.inr (by decide))).trans pf1
      have pf2 := (yz21209.1 _ 29 (Or.inr (by decide)) (Or.inr (by decide)) (Or.inr (by decide)) (Or.inr (by decide)) (Or.inr (by decide)) (Or.inr (by decide)) (Or.inr (by decide)) (Or.inr (by decide))).trans pf2
      have pf6 := (yz21209.1 _ 12 (Or.inr (by decide)) (Or.inr (by decide)) (Or.inr (by decide)) (Or.inr (by decide)) (Or.inl (by rw [gx0]; decide)) (Or.inr (by decide)) (Or.inr (by decide)) (Or.inr (by decide))).trans pf6
      have pf7 := (yz21209.1 _ 7 (Or.inr (by decide)) (Or.inr (by decide)) (Or.inr (by decide)) (Or.inr (by decide)) (Or.inr (by decide)) (Or.inr (by decide)) (Or.inr (by decide)) (Or.inr (by decide))).trans pf7
      have pf8 := (yz21209.1 _ 8 (Or.inl (by rw [gx0]; decide)) (Or.inr (by decide)) (Or.inr (by decide)) (Or.inr (by decide)) (Or.inr (by decide)) (Or.inr (by decide)) (Or.inr (by decide)) (Or.inr (by decide))).trans pf8
      have pf9 := (yz21209.1 _ 9 (Or.inr (by decide)) (Or.inl (by rw [gx0]; decide)) (Or.inr (by decide)) (Or.inr (by decide)) (Or.inr (by decide)) (Or.inr (by decide)) (Or.inr (by decide)) (Or.inr (by decide))).trans pf9
      have pf10 := (yz21209.1 _ 10 (Or.inr (by decide)) (Or.inr (by decide)) (Or.inl (by rw [gx0]; decide)) (Or.inr (by decide)) (Or.inr (by decide)) (Or.inr (by decide)) (Or.inr (by decide)) (Or.inr (by decide))).trans pf10
      have pf11 := (yz21209.1 _ 0 (Or.inr (by decide)) (Or.inr (by decide)) (Or.inr (by decide)) (Or.inr (by decide)) (Or.inr (by decide)) (Or.inr (by decide)) (Or.inr (by decide)) (Or.inr (by decide))).trans pf11
      have hv21199 := (yz21209.1 _ 15 (Or.inr (by decide)) (Or.inr (by decide)) (Or.inr (by decide)) (Or.inr (by decide)) (Or.inr (by decide)) (Or.inr (by decide)) (Or.inr (by decide)) (Or.inl (by rw [gx0]; decide))).trans hv21199
      have vz21201 := (yz21209.2 _ _ ).trans vz21201
      have hfr : (∀ b j : Nat, (tag b ≠ 44 ∨ j ≠ 8) → (tag b ≠ 44 ∨ j ≠ 12) → (tag b ≠ 46 ∨ j ≠ 8) → (tag b ≠ 46 ∨ j ≠ 9) → (tag b ≠ 46 ∨ j ≠ 10) → (tag b ≠ 46 ∨ j ≠ 11) → (tag b ≠ 46 ∨ j ≠ 12) → (tag b ≠ 46 ∨ j ≠ 13) → (tag b ≠ 46 ∨ j ≠ 14) → (tag b ≠ 46 ∨ j ≠ 15) → fld F b j = fld Fo b j) ∧ (∀ b j : Nat, tag b ≠ 30 → tag b ≠ 31 → tag b ≠ 34 → tag b ≠ 35 → tag b ≠ 36 → tag b ≠ 37 → elm F b j = elm Fo b j) := ⟨fun b j n44_8 n44_12 n46_8 n46_9 n46_10 n46_11 n46_12 n46_13 n46_14 n46_15 => (yz21209.1 b j n46_8 n46_9 n46_10 n46_11 n46_12 n46_13 n46_14 n46_15).trans (hfr.1 b j n44_8 n44_12 n46_8 n46_9 n46_10 n46_11 n46_12 n46_13 n46_14 n46_15), fun b j a30 a31 a34 a35 a36 a37 => (yz21209.2 b j ).trans (hfr.2 b j a30 a31 a34 a35 a36 a37)⟩
      have hrel := msr_of (fun j => yz21209.2 _ j ) (fun j => yz21209.2 _ j ) hrel
      have hstk := STK.tr hstk stz21209
      have hspt := SPT.tr hspt ptz21209
      have k5z21209 : soz21209.toInt = 5 := stz21209 (by omega)
      refine lv_istore (lv' := [(6, .int z21209), (5, .int z21208), (4, .int z21207), (3, .int z21182), (1, .long z21180), (0, .ref p0)]) hx hb dX13_readHouse_131 hl (by decide) rfl (fun ls hl => ?_)
      refine lv_aload_n hx hb dX13_readHouse_133 rfl (lv_at hl 5 rfl) ?_
      refine t_get (C := RX13) (T := TX13) (N := 37) X hT m0 g0 rfl rfl 9 (by decide) qw_478 inlX13 rfl dX13_readHouse_134 (fun v21210 hv21210 ov21210 => ?_)
      obtain rfl : v21210 = .int soz21209 := hv21210.symm.trans qsoz21209
      refine lv_iconst (v := 5) hx hb dX13_readHouse_137 (by decide) ?_
      refine lv_icmp_ne (tgt := 142) hx hb dX13_readHouse_138 (by decide) (fun c21211 => ?_) (fun c21211 => ?_)
      · have w21212 := cv_ne (rfl : soz21209.toInt = soz21209.toInt) (by decide : (5 : Int32).toInt = 5) c21211
        exfalso
        omega
      · have w21213 := cv_eq (rfl : soz21209.toInt = soz21209.toInt) (by decide : (5 : Int32).toInt = 5) c21211
        exact t_vret hQ X hT ⟨hfr, hrel, ⟨soz21209, spz21209, faz21209, qsoz21209, qspz21209, qfaz21209, (by omega), (by omega), (by omega), hstk, hspt, hkf⟩, ⟨x6, x7, x8, x9, x10, x11, pf6, pf7, pf8, pf9, pf10, pf11, (by omega), (by omega), (by omega), (by omega), (by omega), (by omega), hpl⟩⟩ (Nat.le_of_ble_eq_true rfl) (Nat.le_of_ble_eq_true rfl) dX13_readHouse_141
    · have w21214 := cv_eq (rfl : z21201.toInt = z21201.toInt) (by decide : (0 : Int32).toInt = 0) c21202
      refine lv_aload_n hx hb dX13_readHouse_49 rfl (lv_at hl 2 rfl) ?_
      refine t_get (C := RX13) (T := TX13) (N := 37) X hT m0 g0 rfl rfl 4 (by decide) qw_477 inlX13 rfl dX13_readHouse_50 (fun v21215 hv21215 ov21215 => ?_)
      obtain rfl : v21215 = .ref x0 := hv21215.symm.trans pf0
      refine lv_aload_n hx hb dX13_readHouse_53 rfl (lv_at hl 2 rfl) ?_
      refine t_get (C := RX13) (T := TX13) (N := 37) X hT m0 g0 rfl rfl 4 (by decide) qw_477 inlX13 rfl dX13_readHouse_54 (fun v21216 hv21216 ov21216 => ?_)
      obtain rfl : v21216 = .ref x0 := hv21216.symm.trans pf0
      refine t_getN (C := RX12) (T := TX12) (N := 31) X hT mx0 gx0 rfl rfl 30 (by decide) (List.mem_of_getElem? (i := 34) rfl) inlX12 rfl dX13_readHouse_57 (fun v21217 hv21217 ov21217 => ?_)
      obtain ⟨b21218, rfl, mb21218, gb21218⟩ := okV_r ov21217
      have gb21218 : tag b21218 = 37 := tg_of gb21218
      refine lv_iload_n hx hb dX13_readHouse_60 rfl (lv_at hl 0 rfl) ?_
      refine lv_aload_n hx hb dX13_readHouse_61 rfl (lv_at hl 2 rfl) ?_
      refine t_get (C := RX13) (T := TX13) (N := 37) X hT m0 g0 rfl rfl 4 (by decide) qw_477 inlX13 rfl dX13_readHouse_62 (fun v21219 hv21219 ov21219 => ?_)
      obtain rfl : v21219 = .ref x0 := hv21219.symm.trans pf0
      refine t_getN (C := RX12) (T := TX12) (N := 31) X hT mx0 gx0 rfl rfl 0 (by decide) (List.mem_of_getElem? (i := 4) rfl) inlX12 rfl dX13_readHouse_65 (fun v21220 hv21220 ov21220 => ?_)
      obtain rfl : v21220 = .int x11 := hv21220.symm.trans pf11
      refine lv_irem hx hb dX13_readHouse_68 (ne0_of (by omega)) ?_
      refine lv_topi (fun z21221 ez21221 => ?_)
      have hz21221 := ar_remv ez21221 (by omega) (by omega)
      have rz21221 : 0 ≤ z21221.toInt ∧ z21221.toInt ≤ 11 := by omega
      refine lv_iload_n hx hb dX13_readHouse_69 rfl (lv_at hl 0 rfl) ?_
      refine lv_aload_n hx hb dX13_readHouse_70 rfl (lv_at hl 2 rfl) ?_
      refine t_get (C := RX13) (T := TX13) (N := 37) X hT m0 g0 rfl rfl 4 (by decide) qw_477 inlX13 rfl dX13_readHouse_71 (fun v21222 hv21222 ov21222 => ?_)
      obtain rfl : v21222 = .ref x0 := hv21222.symm.trans pf0
      refine t_getN (C := RX12) (T := TX12) (N := 31) X hT mx0 gx0 rfl rfl 0 (by decide) (List.mem_of_getElem? (i := 4) rfl) inlX12 rfl dX13_readHouse_74 (fun v21223 hv21223 ov21223 => ?_)
      obtain rfl : v21223 = .int x11 := hv21223.symm.trans pf11
      refine lv_idiv hx hb dX13_readHouse_77 (ne0_of (by omega)) ?_
      refine lv_topi (fun z21224 ez21224 => ?_)
      have rz21224 : 0 ≤ z21224.toInt ∧ z21224.toInt ≤ 143 := ar_divv ez21224 (A := 143) (by omega) (by omega)
      refine t_cSi (n := 4) (As := [.ref x0, .ref b21218, .int z21221, .int z21224]) (rest := []) X hT (km57_X13_ownersOf l G tag L F hT.2.2.2 x0 b21218 z21221 z21224 x11 mx0 gx0 mb21218 gb21218 (by omega) pf11) qw_616 qw_617 qw_5 qw_618 ⟨by decide +kernel, by decide +kernel, by decide +kernel⟩ ⟨Nat.le_of_ble_eq_true rfl, Nat.le_of_ble_eq_true rfl⟩ hl rfl rfl (Nat.le_of_ble_eq_true rfl) dX13_readHouse_78 ⟨Nat.le_of_ble_eq_true rfl, Nat.le_of_ble_eq_true rfl⟩ (fun z21225 F9 H locs hT hz21225 => ?_)
      obtain ⟨fz21225, hz21225⟩ := hz21225
      rw [fz21225] at hT
      refine lv_if_eq (tgt := 90) hx hb dX13_readHouse_81 (by decide) (fun c21226 => ?_) (fun c21226 => ?_)
      · have w21227 := cv_eq (rfl : z21225.toInt = z21225.toInt) (by decide : (0 : Int32).toInt = 0) c21226
        refine lv_aload_n hx hb dX13_readHouse_90 rfl (lv_at hl 2 rfl) ?_
        refine t_cVv (n := 0) (C := RX13) (T := TX13) (N := 37) (As := []) (rest := []) X hT (km14_X13_goesOn l G tag L F hT.2.2.2 p0 x0 x1 x2 soz21182 spz21182 faz21182 m0 g0 mx0 gx0 pf0 mx1 gx1 pf1 mx2 gx2 pf2 (by omega) qsoz21182 (by omega) qspz21182 (by omega) qfaz21182 hkf) m0 g0 rfl rfl qw_508 qw_509 qw_510 qw_5 qw_511 ⟨rfl, by decide +kernel, by decide +kernel, by decide +kernel⟩ ⟨Nat.le_of_ble_eq_true rfl, Nat.le_of_ble_eq_true rfl⟩ hl rfl rfl (Nat.le_of_ble_eq_true rfl) dX13_readHouse_91 ⟨Nat.le_of_ble_eq_true rfl, Nat.le_of_ble_eq_true rfl⟩ (fun F H locs hT hz21228 => ?_)
        obtain ⟨yz21228, ⟨soz21228, spz21228, faz21228, qsoz21228, qspz21228, qfaz21228, rsoz21228, rspz21228, rfaz21228, stz21228, ptz21228, hkf⟩⟩ := hz21228
        have pf0 := (yz21228.1 _ 4 (Or.inr (by decide)) (Or.inr (by decide)) (Or.inr (by decide)) (Or.inr (by decide)) (Or.inr (by decide)) (Or.inr (by decide))).trans pf0
        have pf1 := (yz21228.1 _ 28 (Or.inr (by decide)) (Or.inr (by decide)) (Or.inr (by decide)) (Or.inr (by decide)) (Or.inr (by decide)) (Or.inr (by decide))).trans pf1
        have pf2 := (yz21228.1 _ 29 (Or.inr (by decide)) (Or.inr (by decide)) (Or.inr (by decide)) (Or.inr (by decide)) (Or.inr (by decide)) (Or.inr (by decide))).trans pf2
        have pf6 := (yz21228.1 _ 12 (Or.inr (by decide)) (Or.inr (by decide)) (Or.inr (by decide)) (Or.inr (by decide)) (Or.inl (by rw [gx0]; decide)) (Or.inr (by decide))).trans pf6
        have pf7 := (yz21228.1 _ 7 (Or.inr (by decide)) (Or.inr (by decide)) (Or.inr (by decide)) (Or.inr (by decide)) (Or.inr (by decide)) (Or.inr (by decide))).trans pf7
        have pf8 := (yz21228.1 _ 8 (Or.inl (by rw [gx0]; decide)) (Or.inr (by decide)) (Or.inr (by decide)) (Or.inr (by decide)) (Or.inr (by decide)) (Or.inr (by decide))).trans pf8
        have pf9 := (yz21228.1 _ 9 (Or.inr (by decide)) (Or.inl (by rw [gx0]; decide)) (Or.inr (by decide)) (Or.inr (by decide)) (Or.inr (by decide)) (Or.inr (by decide))).trans pf9
        have pf10 := (yz21228.1 _ 10 (Or.inr (by decide)) (Or.inr (by decide)) (Or.inl (by rw [gx0]; decide)) (Or.inr (by decide)) (Or.inr (by decide)) (Or.inr (by decide))).trans pf10
        have pf11 := (yz21228.1 _ 0 (Or.inr (by decide)) (Or.inr (by decide)) (Or.inr (by decide)) (Or.inr (by decide)) (Or.inr (by decide)) (Or.inr (by decide))).trans pf11
        have qfaz21182 := (yz21228.1 _ 13 (Or.inr (by decide)) (Or.inr (by decide)) (Or.inr (by decide)) (Or.inr (by decide)) (Or.inr (by decide)) (Or.inr (by decide))).trans qfaz21182
        have hv21199 := (yz21228.1 _ 15 (Or.inr (by decide)) (Or.inr (by decide)) (Or.inr (by decide)) (Or.inr (by decide)) (Or.inr (by decide)) (Or.inl (by rw [gx0]; decide))).trans hv21199
        have vz21201 := (yz21228.2 _ _ ).trans vz21201
        have hv21217 := (yz21228.1 _ 30 (Or.inr (by decide)) (Or.inr (by decide)) (Or.inr (by decide)) (Or.inr (by decide)) (Or.inr (by decide)) (Or.inr (by decide))).trans hv21217
        have hfr : (∀ b j : Nat, (tag b ≠ 44 ∨ j ≠ 8) → (tag b ≠ 44 ∨ j ≠ 12) → (tag b ≠ 46 ∨ j ≠ 8) → (tag b ≠ 46 ∨ j ≠ 9) → (tag b ≠ 46 ∨ j ≠ 10) → (tag b ≠ 46 ∨ j ≠ 11) → (tag b ≠ 46 ∨ j ≠ 12) → (tag b ≠ 46 ∨ j ≠ 13) → (tag b ≠ 46 ∨ j ≠ 14) → (tag b ≠ 46 ∨ j ≠ 15) → fld F b j = fld Fo b j) ∧ (∀ b j : Nat, tag b ≠ 30 → tag b ≠ 31 → tag b ≠ 34 → tag b ≠ 35 → tag b ≠ 36 → tag b ≠ 37 → elm F b j = elm Fo b j) := ⟨fun b j n44_8 n44_12 n46_8 n46_9 n46_10 n46_11 n46_12 n46_13 n46_14 n46_15 => (yz21228.1 b j n46_8 n46_9 n46_10 n46_11 n46_12 n46_15).trans (hfr.1 b j n44_8 n44_12 n46_8 n46_9 n46_10 n46_11 n46_12 n46_13 n46_14 n46_15), fun b j a30 a31 a34 a35 a36 a37 => (yz21228.2 b j ).trans (hfr.2 b j a30 a31 a34 a35 a36 a37)⟩
        have hrel := msr_of (fun j => yz21228.2 _ j ) (fun j => yz21228.2 _ j ) hrel
        have hstk := STK.tr hstk stz21228
        have hspt := SPT.tr hspt ptz21228
        refine lv_aload_n hx hb dX13_readHouse_94 rfl (lv_at hl 2 rfl) ?_
        refine m_ldcKw X 69 rfl dX13_readHouse_95 ?_
        refine t_cVv (n := 1) (C := RX13) (T := TX13) (N := 37) (As := [.ref (G.2 (100 + 69))]) (rest := []) X hT (km40_X13_needs l G tag L F hT.2.2.2 p0 69 x0 x1 x2 soz21228 spz21228 faz21228 m0 g0 (by decide) mx0 gx0 pf0 mx1 gx1 pf1 mx2 gx2 pf2 (by omega) qsoz21228 (by omega) qspz21228 (by omega) qfaz21228 hkf) m0 g0 rfl rfl qw_556 qw_557 qw_558 qw_5 qw_559 ⟨rfl, by decide +kernel, by decide +kernel, by decide +kernel⟩ ⟨Nat.le_of_ble_eq_true rfl, Nat.le_of_ble_eq_true rfl⟩ hl rfl rfl (Nat.le_of_ble_eq_true rfl) dX13_readHouse_98 ⟨Nat.le_of_ble_eq_true rfl, Nat.le_of_ble_eq_true rfl⟩ (fun F H locs hT hz21229 => ?_)
        obtain ⟨yz21229, ⟨soz21229, spz21229, faz21229, qsoz21229, qspz21229, qfaz21229, rsoz21229, rspz21229, rfaz21229, stz21229, ptz21229, hkf⟩⟩ := hz21229
        have pf0 := (yz21229.1 _ 4 (Or.inr (by decide)) (Or.inr (by decide)) (Or.inr (by decide)) (Or.inr (by decide)) (Or.inr (by decide)) (Or.inr (by decide)) (Or.inr (by decide)) (Or.inr (by decide))).trans pf0
        have pf1 := (yz21229.1 _ 28 (Or.inr (by decide)) (Or.inr (by decide)) (Or.inr (by decide)) (Or.inr (by decide)) (Or.inr (by decide)) (Or.inr (by decide)) (Or.inr (by decide)) (Or.inr (by decide))).trans pf1
        have pf2 := (yz21229.1 _ 29 (Or.inr (by decide)) (Or.inr (by decide)) (Or.inr (by decide)) (Or.inr (by decide)) (Or.inr (by decide)) (Or.inr (by decide)) (Or.inr (by decide)) (Or.inr (by decide))).trans pf2
        have pf6 := (yz21229.1 _ 12 (Or.inr (by decide)) (Or.inr (by decide)) (Or.inr (by decide)) (Or.inr (by decide)) (Or.inl (by rw [gx0]; decide)) (Or.inr (by decide)) (Or.inr (by decide)) (Or.inr (by decide))).trans pf6
        have pf7 := (yz21229.1 _ 7 (Or.inr (by decide)) (Or.inr (by decide)) (Or.inr (by decide)) (Or.inr (by decide)) (Or.inr (by decide)) (Or.inr (by decide)) (Or.inr (by decide)) (Or.inr (by decide))).trans pf7
        have pf8 := (yz21229.1 _ 8 (Or.inl (by rw [gx0]; decide)) (Or.inr (by decide)) (Or.inr (by decide)) (Or.inr (by decide)) (Or.inr (by decide)) (Or.inr (by decide)) (Or.inr (by decide)) (Or.inr (by decide))).trans pf8
        have pf9 := (yz21229.1 _ 9 (Or.inr (by decide)) (Or.inl (by rw [gx0]; decide)) (Or.inr (by decide)) (Or.inr (by decide)) (Or.inr (by decide)) (Or.inr (by decide)) (Or.inr (by decide)) (Or.inr (by decide))).trans pf9
        have pf10 := (yz21229.1 _ 10 (Or.inr (by decide)) (Or.inr (by decide)) (Or.inl (by rw [gx0]; decide)) (Or.inr (by decide)) (Or.inr (by decide)) (Or.inr (by decide)) (Or.inr (by decide)) (Or.inr (by decide))).trans pf10
        have pf11 := (yz21229.1 _ 0 (Or.inr (by decide)) (Or.inr (by decide)) (Or.inr (by decide)) (Or.inr (by decide)) (Or.inr (by decide)) (Or.inr (by decide)) (Or.inr (by decide)) (Or.inr (by decide))).trans pf11
        have hv21199 := (yz21229.1 _ 15 (Or.inr (by decide)) (Or.inr (by decide)) (Or.inr (by decide)) (Or.inr (by decide)) (Or.inr (by decide)) (Or.inr (by decide)) (Or.inr (by decide)) (Or.inl (by rw [gx0]; decide))).trans hv21199
        have vz21201 := (yz21229.2 _ _ ).trans vz21201
        have hv21217 := (yz21229.1 _ 30 (Or.inr (by decide)) (Or.inr (by decide)) (Or.inr (by decide)) (Or.inr (by decide)) (Or.inr (by decide)) (Or.inr (by decide)) (Or.inr (by decide)) (Or.inr (by decide))).trans hv21217
        have hfr : (∀ b j : Nat, (tag b ≠ 44 ∨ j ≠ 8) → (tag b ≠ 44 ∨ j ≠ 12) → (tag b ≠ 46 ∨ j ≠ 8) → (tag b ≠ 46 ∨ j ≠ 9) → (tag b ≠ 46 ∨ j ≠ 10) → (tag b ≠ 46 ∨ j ≠ 11) → (tag b ≠ 46 ∨ j ≠ 12) → (tag b ≠ 46 ∨ j ≠ 13) → (tag b ≠ 46 ∨ j ≠ 14) → (tag b ≠ 46 ∨ j ≠ 15) → fld F b j = fld Fo b j) ∧ (∀ b j : Nat, tag b ≠ 30 → tag b ≠ 31 → tag b ≠ 34 → tag b ≠ 35 → tag b ≠ 36 → tag b ≠ 37 → elm F b j = elm Fo b j) := ⟨fun b j n44_8 n44_12 n46_8 n46_9 n46_10 n46_11 n46_12 n46_13 n46_14 n46_15 => (yz21229.1 b j n46_8 n46_9 n46_10 n46_11 n46_12 n46_13 n46_14 n46_15).trans (hfr.1 b j n44_8 n44_12 n46_8 n46_9 n46_10 n46_11 n46_12 n46_13 n46_14 n46_15), fun b j a30 a31 a34 a35 a36 a37 => (yz21229.2 b j ).trans (hfr.2 b j a30 a31 a34 a35 a36 a37)⟩
        have hrel := msr_of (fun j => yz21229.2 _ j ) (fun j => yz21229.2 _ j ) hrel
        have hstk := STK.tr hstk stz21229
        have hspt := SPT.tr hspt ptz21229
        refine lv_aload_n hx hb dX13_readHouse_101 rfl (lv_at hl 2 rfl) ?_
        refine lv_iconst (v := 0) hx hb dX13_readHouse_102 (by decide) ?_
        refine t_cVi (n := 1) (C := RX13) (T := TX13) (N := 37) (As := [.int 0]) (rest := []) X hT (km36_X13_readKnown l G tag L F hT.2.2.2 p0 0 x0 x1 x2 soz21229 spz21229 faz21229 m0 g0 (by decide) mx0 gx0 pf0 mx1 gx1 pf1 mx2 gx2 pf2 (by omega) qsoz21229 (by omega) qspz21229 (by omega) qfaz21229 hrel hkf) m0 g0 rfl rfl qw_632 qw_633 qw_634 qw_5 qw_635 ⟨rfl, by decide +kernel, by decide +kernel, by decide +kernel⟩ ⟨Nat.le_of_ble_eq_true rfl, Nat.le_of_ble_eq_true rfl⟩ hl rfl rfl (Nat.le_of_ble_eq_true rfl) dX13_readHouse_103 ⟨Nat.le_of_ble_eq_true rfl, Nat.le_of_ble_eq_true rfl⟩ (fun z21230 F H locs hT hz21230 => ?_)
        obtain ⟨hz21230, yz21230, hrel, ⟨soz21230, spz21230, faz21230, qsoz21230, qspz21230, qfaz21230, rsoz21230, rspz21230, rfaz21230, stz21230, ptz21230, hkf⟩⟩ := hz21230
        have pf0 := (yz21230.1 _ 4 (Or.inr (by decide)) (Or.inr (by decide)) (Or.inr (by decide)) (Or.inr (by decide)) (Or.inr (by decide)) (Or.inr (by decide)) (Or.inr (by decide)) (Or.inr (by decide))).trans pf0
        have pf1 := (yz21230.1 _ 28 (Or.inr (by decide)) (Or.inr (by decide)) (Or.inr (by decide)) (Or.inr (by decide)) (Or.inr (by decide)) (Or.inr (by decide)) (Or.inr (by decide)) (Or.inr (by decide))).trans pf1
        have pf2 := (yz21230.1 _ 29 (Or.inr (by decide)) (Or.inr (by decide)) (Or.inr (by decide)) (Or.inr (by decide)) (Or.inr (by decide)) (Or.inr (by decide)) (Or.inr (by decide)) (Or.inr (by decide))).trans pf2
        have pf6 := (yz21230.1 _ 12 (Or.inr (by decide)) (Or.inr (by decide)) (Or.inr (by decide)) (Or.inr (by decide)) (Or.inl (by rw [gx0]; decide)) (Or.inr (by decide)) (Or.inr (by decide)) (Or.inr (by decide))).trans pf6
        have pf7 := (yz21230.1 _ 7 (Or.inr (by decide)) (Or.inr (by decide)) (Or.inr (by decide)) (Or.inr (by decide)) (Or.inr (by decide)) (Or.inr (by decide)) (Or.inr (by decide)) (Or.inr (by decide))).trans pf7
        have pf8 := (yz21230.1 _ 8 (Or.inl (by rw [gx0]; decide)) (Or.inr (by decide)) (Or.inr (by decide)) (Or.inr (by decide)) (Or.inr (by decide)) (Or.inr (by decide)) (Or.inr (by decide)) (Or.inr (by decide))).trans pf8
        have pf9 := (yz21230.1 _ 9 (Or.inr (by decide)) (Or.inl (by rw [gx0]; decide)) (Or.inr (by decide)) (Or.inr (by decide)) (Or.inr (by decide)) (Or.inr (by decide)) (Or.inr (by decide)) (Or.inr (by decide))).trans pf9
        have pf10 := (yz21230.1 _ 10 (Or.inr (by decide)) (Or.inr (by decide)) (Or.inl (by rw [gx0]; decide)) (Or.inr (by decide)) (Or.inr (by decide)) (Or.inr (by decide)) (Or.inr (by decide)) (Or.inr (by decide))).trans pf10
        have pf11 := (yz21230.1 _ 0 (Or.inr (by decide)) (Or.inr (by decide)) (Or.inr (by decide)) (Or.inr (by decide)) (Or.inr (by decide)) (Or.inr (by decide)) (Or.inr (by decide)) (Or.inr (by decide))).trans pf11
        have hv21199 := (yz21230.1 _ 15 (Or.inr (by decide)) (Or.inr (by decide)) (Or.inr (by decide)) (Or.inr (by decide)) (Or.inr (by decide)) (Or.inr (by decide)) (Or.inr (by decide)) (Or.inl (by rw [gx0]; decide))).trans hv21199
        have vz21201 := (yz21230.2 _ _ ).trans vz21201
        have hv21217 := (yz21230.1 _ 30 (Or.inr (by decide)) (Or.inr (by decide)) (Or.inr (by decide)) (Or.inr (by decide)) (Or.inr (by decide)) (Or.inr (by decide)) (Or.inr (by decide)) (Or.inr (by decide))).trans hv21217
        have hfr : (∀ b j : Nat, (tag b ≠ 44 ∨ j ≠ 8) → (tag b ≠ 44 ∨ j ≠ 12) → (tag b ≠ 46 ∨ j ≠ 8) → (tag b ≠ 46 ∨ j ≠ 9) → (tag b ≠ 46 ∨ j ≠ 10) → (tag b ≠ 46 ∨ j ≠ 11) → (tag b ≠ 46 ∨ j ≠ 12) → (tag b ≠ 46 ∨ j ≠ 13) → (tag b ≠ 46 ∨ j ≠ 14) → (tag b ≠ 46 ∨ j ≠ 15) → fld F b j = fld Fo b j) ∧ (∀ b j : Nat, tag b ≠ 30 → tag b ≠ 31 → tag b ≠ 34 → tag b ≠ 35 → tag b ≠ 36 → tag b ≠ 37 → elm F b j = elm Fo b j) := ⟨fun b j n44_8 n44_12 n46_8 n46_9 n46_10 n46_11 n46_12 n46_13 n46_14 n46_15 => (yz21230.1 b j n46_8 n46_9 n46_10 n46_11 n46_12 n46_13 n46_14 n46_15).trans (hfr.1 b j n44_8 n44_12 n46_8 n46_9 n46_10 n46_11 n46_12 n46_13 n46_14 n46_15), fun b j a30 a31 a34 a35 a36 a37 => (yz21230.2 b j ).trans (hfr.2 b j a30 a31 a34 a35 a36 a37)⟩
        have hstk := STK.tr hstk stz21230
        have hspt := SPT.tr hspt ptz21230
        refine lv_istore (lv' := [(4, .int z21230), (3, .int z21182), (1, .long z21180), (0, .ref p0)]) hx hb dX13_readHouse_106 hl (by decide) rfl (fun ls hl => ?_)
        refine lv_aload_n hx hb dX13_readHouse_108 rfl (lv_at hl 3 rfl) ?_
        refine m_ldcKw X 70 rfl dX13_readHouse_109 ?_
        refine lv_iconst (v := 0) hx hb dX13_readHouse_112 (by decide) ?_
        refine lv_bipush (v := 99) hx hb dX13_readHouse_113 (by decide) ?_
        refine t_cVi (n := 3) (C := RX13) (T := TX13) (N := 37) (As := [.ref (G.2 (100 + 70)), .int 0, .int 99]) (rest := []) X hT (km43_X13_readPart l G tag L F hT.2.2.2 p0 70 0 99 x0 x1 x2 soz21230 spz21230 faz21230 m0 g0 (by decide) (by decide) (by decide) mx0 gx0 pf0 mx1 gx1 pf1 mx2 gx2 pf2 (by omega) qsoz21230 (by omega) qspz21230 (by omega) qfaz21230 hkf) m0 g0 rfl rfl qw_552 qw_553 qw_554 qw_5 qw_555 ⟨rfl, by decide +kernel, by decide +kernel, by decide +kernel⟩ ⟨Nat.le_of_ble_eq_true rfl, Nat.le_of_ble_eq_true rfl⟩ hl rfl rfl (Nat.le_of_ble_eq_true rfl) dX13_readHouse_115 ⟨Nat.le_of_ble_eq_true rfl, Nat.le_of_ble_eq_true rfl⟩ (fun z21231 F H locs hT hz21231 => ?_)
        obtain ⟨hz21231, yz21231, ⟨soz21231, spz21231, faz21231, qsoz21231, qspz21231, qfaz21231, rsoz21231, rspz21231, rfaz21231, stz21231, ptz21231, hkf⟩⟩ := hz21231
        have pf0 := (yz21231.1 _ 4 (Or.inr (by decide)) (Or.inr (by decide)) (Or.inr (by decide)) (Or.inr (by decide)) (Or.inr (by decide)) (Or.inr (by decide)) (Or.inr (by decide)) (Or.inr (by decide))).trans pf0
        have pf1 := (yz21231.1 _ 28 (Or.inr (by decide)) (Or.inr (by decide)) (Or.inr (by decide)) (Or.inr (by decide)) (Or.inr (by decide)) (Or.inr (by decide)) (Or.inr (by decide)) (Or.inr (by decide))).trans pf1
        have pf2 := (yz21231.1 _ 29 (Or.inr (by decide)) (Or.inr (by decide)) (Or.inr (by decide)) (Or.inr (by decide)) (Or.inr (by decide)) (Or.inr (by decide)) (Or.inr (by decide)) (Or.inr (by decide))).trans pf2
        have pf6 := (yz21231.1 _ 12 (Or.inr (by decide)) (Or.inr (by decide)) (Or.inr (by decide)) (Or.inr (by decide)) (Or.inl (by rw [gx0]; decide)) (Or.inr (by decide)) (Or.inr (by decide)) (Or.inr (by decide))).trans pf6
        have pf7 := (yz21231.1 _ 7 (Or.inr (by decide)) (Or.inr (by decide)) (Or.inr (by decide)) (Or.inr (by decide)) (Or.inr (by decide)) (Or.inr (by decide)) (Or.inr (by decide)) (Or.inr (by decide))).trans pf7
        have pf8 := (yz21231.1 _ 8 (Or.inl (by rw [gx0]; decide)) (Or.inr (by decide)) (Or.inr (by decide)) (Or.inr (by decide)) (Or.inr (by decide)) (Or.inr (by decide)) (Or.inr (by decide)) (Or.inr (by decide))).trans pf8
        have pf9 := (yz21231.1 _ 9 (Or.inr (by decide)) (Or.inl (by rw [gx0]; decide)) (Or.inr (by decide)) (Or.inr (by decide)) (Or.inr (by decide)) (Or.inr (by decide)) (Or.inr (by decide)) (Or.inr (by decide))).trans pf9
        have pf10 := (yz21231.1 _ 10 (Or.inr (by decide)) (Or.inr (by decide)) (Or.inl (by rw [gx0]; decide)) (Or.inr (by decide)) (Or.inr (by decide)) (Or.inr (by decide)) (Or.inr (by decide)) (Or.inr (by decide))).trans pf10
        have pf11 := (yz21231.1 _ 0 (Or.inr (by decide)) (Or.inr (by decide)) (Or.inr (by decide)) (Or.inr (by decide)) (Or.inr (by decide)) (Or.inr (by decide)) (Or.inr (by decide)) (Or.inr (by decide))).trans pf11
        have hv21199 := (yz21231.1 _ 15 (Or.inr (by decide)) (Or.inr (by decide)) (Or.inr (by decide)) (Or.inr (by decide)) (Or.inr (by decide)) (Or.inr (by decide)) (Or.inr (by decide)) (Or.inl (by rw [gx0]; decide))).trans hv21199
        have vz21201 := (yz21231.2 _ _ ).trans vz21201
        have hv21217 := (yz21231.1 _ 30 (Or.inr (by decide)) (Or.inr (by decide)) (Or.inr (by decide)) (Or.inr (by decide)) (Or.inr (by decide)) (Or.inr (by decide)) (Or.inr (by decide)) (Or.inr (by decide))).trans hv21217
        have hfr : (∀ b j : Nat, (tag b ≠ 44 ∨ j ≠ 8) → (tag b ≠ 44 ∨ j ≠ 12) → (tag b ≠ 46 ∨ j ≠ 8) → (tag b ≠ 46 ∨ j ≠ 9) → (tag b ≠ 46 ∨ j ≠ 10) → (tag b ≠ 46 ∨ j ≠ 11) → (tag b ≠ 46 ∨ j ≠ 12) → (tag b ≠ 46 ∨ j ≠ 13) → (tag b ≠ 46 ∨ j ≠ 14) → (tag b ≠ 46 ∨ j ≠ 15) → fld F b j = fld Fo b j) ∧ (∀ b j : Nat, tag b ≠ 30 → tag b ≠ 31 → tag b ≠ 34 → tag b ≠ 35 → tag b ≠ 36 → tag b ≠ 37 → elm F b j = elm Fo b j) := ⟨fun b j n44_8 n44_12 n46_8 n46_9 n46_10 n46_11 n46_12 n46_13 n46_14 n46_15 => (yz21231.1 b j n46_8 n46_9 n46_10 n46_11 n46_12 n46_13 n46_14 n46_15).trans (hfr.1 b j n44_8 n44_12 n46_8 n46_9 n46_10 n46_11 n46_12 n46_13 n46_14 n46_15), fun b j a30 a31 a34 a35 a36 a37 => (yz21231.2 b j ).trans (hfr.2 b j a30 a31 a34 a35 a36 a37)⟩
        have hrel := msr_of (fun j => yz21231.2 _ j ) (fun j => yz21231.2 _ j ) hrel
        have hstk := STK.tr hstk stz21231
        have hspt := SPT.tr hspt ptz21231
        refine lv_istore (lv' := [(5, .int z21231), (4, .int z21230), (3, .int z21182), (1, .long z21180), (0, .ref p0)]) hx hb dX13_readHouse_118 hl (by decide) rfl (fun ls hl => ?_)
        refine lv_aload_n hx hb dX13_readHouse_120 rfl (lv_at hl 4 rfl) ?_
        refine m_ldcKw X 71 rfl dX13_readHouse_121 ?_
        refine lv_iconst (v := 0) hx hb dX13_readHouse_124 (by decide) ?_
        refine lv_sipush (v := 999) hx hb dX13_readHouse_125 (by decide) ?_
        refine t_cVi (n := 3) (C := RX13) (T := TX13) (N := 37) (As := [.ref (G.2 (100 + 71)), .int 0, .int 999]) (rest := []) X hT (km56_X13_readPart l G tag L F hT.2.2.2 p0 71 0 999 x0 x1 x2 soz21231 spz21231 faz21231 m0 g0 (by decide) (by decide) (by decide) mx0 gx0 pf0 mx1 gx1 pf1 mx2 gx2 pf2 (by omega) qsoz21231 (by omega) qspz21231 (by omega) qfaz21231 hkf) m0 g0 rfl rfl qw_552 qw_553 qw_554 qw_5 qw_555 ⟨rfl, by decide +kernel, by decide +kernel, by decide +kernel⟩ ⟨Nat.le_of_ble_eq_true rfl, Nat.le_of_ble_eq_true rfl⟩ hl rfl rfl (Nat.le_of_ble_eq_true rfl) dX13_readHouse_128 ⟨Nat.le_of_ble_eq_true rfl, Nat.le_of_ble_eq_true rfl⟩ (fun z21232 F H locs hT hz21232 => ?_)
        obtain ⟨hz21232, yz21232, ⟨soz21232, spz21232, faz21232, qsoz21232, qspz21232, qfaz21232, rsoz21232, rspz21232, rfaz21232, stz21232, ptz21232, hkf⟩⟩ := hz21232
        have pf0 := (yz21232.1 _ 4 (Or.inr (by decide)) (Or.inr (by decide)) (Or.inr (by decide)) (Or.inr (by decide)) (Or.inr (by decide)) (Or.inr (by decide)) (Or.inr (by decide)) (Or.inr (by decide))).trans pf0
        have pf1 := (yz21232.1 _ 28 (Or.inr (by decide)) (Or.inr (by decide)) (Or.inr (by decide)) (Or.inr (by decide)) (Or.inr (by decide)) (Or.inr (by decide)) (Or.inr (by decide)) (Or.inr (by decide))).trans pf1
        have pf2 := (yz21232.1 _ 29 (Or.inr (by decide)) (Or.inr (by decide)) (Or.inr (by decide)) (Or.inr (by decide)) (Or.inr (by decide)) (Or.inr (by decide)) (Or.inr (by decide)) (Or.inr (by decide))).trans pf2
        have pf6 := (yz21232.1 _ 12 (Or.inr (by decide)) (Or.inr (by decide)) (Or.inr (by decide)) (Or.inr (by decide)) (Or.inl (by rw [gx0]; decide)) (Or.inr (by decide)) (Or.inr (by decide)) (Or.inr (by decide))).trans pf6
        have pf7 := (yz21232.1 _ 7 (Or.inr (by decide)) (Or.inr (by decide)) (Or.inr (by decide)) (Or.inr (by decide)) (Or.inr (by decide)) (Or.inr (by decide)) (Or.inr (by decide)) (Or.inr (by decide))).trans pf7
        have pf8 := (yz21232.1 _ 8 (Or.inl (by rw [gx0]; decide)) (Or.inr (by decide)) (Or.inr (by decide)) (Or.inr (by decide)) (Or.inr (by decide)) (Or.inr (by decide)) (Or.inr (by decide)) (Or.inr (by decide))).trans pf8
        have pf9 := (yz21232.1 _ 9 (Or.inr (by decide)) (Or.inl (by rw [gx0]; decide)) (Or.inr (by decide)) (Or.inr (by decide)) (Or.inr (by decide)) (Or.inr (by decide)) (Or.inr (by decide)) (Or.inr (by decide))).trans pf9
        have pf10 := (yz21232.1 _ 10 (Or.inr (by decide)) (Or.inr (by decide)) (Or.inl (by rw [gx0]; decide)) (Or.inr (by decide)) (Or.inr (by decide)) (Or.inr (by decide)) (Or.inr (by decide)) (Or.inr (by decide))).trans pf10
        have pf11 := (yz21232.1 _ 0 (Or.inr (by decide)) (Or.inr (by decide)) (Or.inr (by decide)) (Or.inr (by decide)) (Or.inr (by decide)) (Or.inr (by decide)) (Or.inr (by decide)) (Or.inr (by decide))).trans pf11
        have hv21199 := (yz21232.1 _ 15 (Or.inr (by decide)) (Or.inr (by decide)) (Or.inr (by decide)) (Or.inr (by decide)) (Or.inr (by decide)) (Or.inr (by decide)) (Or.inr (by decide)) (Or.inl (by rw [gx0]; decide))).trans hv21199
        have vz21201 := (yz21232.2 _ _ ).trans vz21201
        have hv21217 := (yz21232.1 _ 30 (Or.inr (by decide)) (Or.inr (by decide)) (Or.inr (by decide)) (Or.inr (by decide)) (Or.inr (by decide)) (Or.inr (by decide)) (Or.inr (by decide)) (Or.inr (by decide))).trans hv21217
        have hfr : (∀ b j : Nat, (tag b ≠ 44 ∨ j ≠ 8) → (tag b ≠ 44 ∨ j ≠ 12) → (tag b ≠ 46 ∨ j ≠ 8) → (tag b ≠ 46 ∨ j ≠ 9) → (tag b ≠ 46 ∨ j ≠ 10) → (tag b ≠ 46 ∨ j ≠ 11) → (tag b ≠ 46 ∨ j ≠ 12) → (tag b ≠ 46 ∨ j ≠ 13) → (tag b ≠ 46 ∨ j ≠ 14) → (tag b ≠ 46 ∨ j ≠ 15) → fld F b j = fld Fo b j) ∧ (∀ b j : Nat, tag b ≠ 30 → tag b ≠ 31 → tag b ≠ 34 → tag b ≠ 35 → tag b ≠ 36 → tag b ≠ 37 → elm F b j = elm Fo b j) := ⟨fun b j n44_8 n44_12 n46_8 n46_9 n46_10 n46_11 n46_12 n46_13 n46_14 n46_15 => (yz21232.1 b j n46_8 n46_9 n46_10 n46_11 n46_12 n46_13 n46_14 n46_15).trans (hfr.1 b j n44_8 n44_12 n46_8 n46_9 n46_10 n46_11 n46_12 n46_13 n46_14 n46_15), fun b j a30 a31 a34 a35 a36 a37 => (yz21232.2 b j ).trans (hfr.2 b j a30 a31 a34 a35 a36 a37)⟩
        have hrel := msr_of (fun j => yz21232.2 _ j ) (fun j => yz21232.2 _ j ) hrel
        have hstk := STK.tr hstk stz21232
        have hspt := SPT.tr hspt ptz21232
        refine lv_istore (lv' := [(6, .int z21232), (5, .int z21231), (4, .int z21230), (3, .int z21182), (1, .long z21180), (0, .ref p0)]) hx hb dX13_readHouse_131 hl (by decide) rfl (fun ls hl => ?_)
        refine lv_aload_n hx hb dX13_readHouse_133 rfl (lv_at hl 5 rfl) ?_
        refine t_get (C := RX13) (T := TX13) (N := 37) X hT m0 g0 rfl rfl 9 (by decide) qw_478 inlX13 rfl dX13_readHouse_134 (fun v21233 hv21233 ov21233 => ?_)
        obtain rfl : v21233 = .int soz21232 := hv21233.symm.trans qsoz21232
        refine lv_iconst (v := 5) hx hb dX13_readHouse_137 (by decide) ?_
        refine lv_icmp_ne (tgt := 142) hx hb dX13_readHouse_138 (by decide) (fun c21234 => ?_) (fun c21234 => ?_)
        · have w21235 := cv_ne (rfl : soz21232.toInt = soz21232.toInt) (by decide : (5 : Int32).toInt = 5) c21234
          have w21236 := (fun (h9 : soz21232.toInt ≠ 5) => (fun (h9 : soz21231.toInt ≠ 5) => (fun (h9 : soz21230.toInt ≠ 5) => (fun (h9 : soz21229.toInt ≠ 5) => (fun (h9 : soz21228.toInt ≠ 5) => (fun (h9 : soz21182.toInt ≠ 5) => (fun (h9 : soz21181.toInt ≠ 5) => (fun (h9 : soz21180.toInt ≠ 5) => pxz21178_0 (fun e9 => h9 (stz21180 e9))) (fun e9 => h9 (stz21181 e9))) (fun e9 => h9 (stz21182 e9))) (fun e9 => h9 (stz21228 e9))) (fun e9 => h9 (stz21229 e9))) (fun e9 => h9 (stz21230 e9))) (fun e9 => h9 (stz21231 e9))) (fun e9 => h9 (stz21232 e9))) (by omega)
          have w21237 := (fun (h9 : soz21232.toInt ≠ 5) => (fun (h9 : soz21231.toInt ≠ 5) => (fun (h9 : soz21230.toInt ≠ 5) => (fun (h9 : soz21229.toInt ≠ 5) => (fun (h9 : soz21228.toInt ≠ 5) => (fun (h9 : soz21182.toInt ≠ 5) => (fun (h9 : soz21181.toInt ≠ 5) => (fun (h9 : soz21180.toInt ≠ 5) => pxz21178_0 (fun e9 => h9 (stz21180 e9))) (fun e9 => h9 (stz21181 e9))) (fun e9 => h9 (stz21182 e9))) (fun e9 => h9 (stz21228 e9))) (fun e9 => h9 (stz21229 e9))) (fun e9 => h9 (stz21230 e9))) (fun e9 => h9 (stz21231 e9))) (fun e9 => h9 (stz21232 e9))) (by omega)
          refine lv_aload_n hx hb dX13_readHouse_142 rfl (lv_at hl 5 rfl) ?_
          refine t_get (C := RX13) (T := TX13) (N := 37) X hT m0 g0 rfl rfl 4 (by decide) qw_477 inlX13 rfl dX13_readHouse_143 (fun v21238 hv21238 ov21238 => ?_)
          obtain rfl : v21238 = .ref x0 := hv21238.symm.trans pf0
          refine t_getN (C := RX12) (T := TX12) (N := 31) X hT mx0 gx0 rfl rfl 8 (by decide) (List.mem_of_getElem? (i := 12) rfl) inlX12 rfl dX13_readHouse_146 (fun v21239 hv21239 ov21239 => ?_)
          obtain rfl : v21239 = .int x8 := hv21239.symm.trans pf8
          refine lv_istore (lv' := [(7, .int x8), (6, .int z21232), (5, .int z21231), (4, .int z21230), (3, .int z21182), (1, .long z21180), (0, .ref p0)]) hx hb dX13_readHouse_149 hl (by decide) rfl (fun ls hl => ?_)
          refine lv_aload_n hx hb dX13_readHouse_151 rfl (lv_at hl 6 rfl) ?_
          refine lv_lload_n hx hb dX13_readHouse_152 rfl (lv_at hl 5 rfl) ?_
          refine lv_iconst (v := 1) hx hb dX13_readHouse_153 (by decide) ?_
          refine lv_iload hx hb dX13_readHouse_154 (lv_at hl 0 rfl) ?_
          have w21240 : 0 ≤ x6.toInt ∧ x6.toInt ≤ 20 := by omega
          refine t_cVv (n := 3) (C := RX13) (T := TX13) (N := 37) (As := [.long z21180, .int 1, .int x8]) (rest := []) X hT (km58_X13_names l G tag L F hT.2.2.2 p0 z21180 1 x8 x0 x1 x2 x6 m0 g0 (by decide) (by omega) mx0 gx0 pf0 mx1 gx1 pf1 mx2 gx2 pf2 (by omega) pf6 hrel) m0 g0 rfl rfl qw_608 qw_609 qw_610 qw_5 qw_611 ⟨rfl, by decide +kernel, by decide +kernel, by decide +kernel⟩ ⟨Nat.le_of_ble_eq_true rfl, Nat.le_of_ble_eq_true rfl⟩ hl rfl rfl (Nat.le_of_ble_eq_true rfl) dX13_readHouse_156 ⟨Nat.le_of_ble_eq_true rfl, Nat.le_of_ble_eq_true rfl⟩ (fun F H locs hT hz21241 => ?_)
          obtain ⟨yz21241, hrel, xz21241_0⟩ := hz21241
          have pf0 := (yz21241.1 _ 4 (Or.inr (by decide))).trans pf0
          have pf1 := (yz21241.1 _ 28 (Or.inr (by decide))).trans pf1
          have pf2 := (yz21241.1 _ 29 (Or.inr (by decide))).trans pf2
          have pf7 := (yz21241.1 _ 7 (Or.inr (by decide))).trans pf7
          have pf8 := (yz21241.1 _ 8 (Or.inr (by decide))).trans pf8
          have pf9 := (yz21241.1 _ 9 (Or.inr (by decide))).trans pf9
          have pf10 := (yz21241.1 _ 10 (Or.inr (by decide))).trans pf10
          have pf11 := (yz21241.1 _ 0 (Or.inr (by decide))).trans pf11
          have hv21199 := (yz21241.1 _ 15 (Or.inr (by decide))).trans hv21199
          have vz21201 := (yz21241.2 _ _ (by rw [gb21200]; decide) (by rw [gb21200]; decide) (by rw [gb21200]; decide)).trans vz21201
          have hv21217 := (yz21241.1 _ 30 (Or.inr (by decide))).trans hv21217
          have qsoz21232 := (yz21241.1 _ 9 (Or.inr (by decide))).trans qsoz21232
          have qspz21232 := (yz21241.1 _ 8 (Or.inr (by decide))).trans qspz21232
          have qfaz21232 := (yz21241.1 _ 13 (Or.inr (by decide))).trans qfaz21232
          have hfr : (∀ b j : Nat, (tag b ≠ 44 ∨ j ≠ 8) → (tag b ≠ 44 ∨ j ≠ 12) → (tag b ≠ 46 ∨ j ≠ 8) → (tag b ≠ 46 ∨ j ≠ 9) → (tag b ≠ 46 ∨ j ≠ 10) → (tag b ≠ 46 ∨ j ≠ 11) → (tag b ≠ 46 ∨ j ≠ 12) → (tag b ≠ 46 ∨ j ≠ 13) → (tag b ≠ 46 ∨ j ≠ 14) → (tag b ≠ 46 ∨ j ≠ 15) → fld F b j = fld Fo b j) ∧ (∀ b j : Nat, tag b ≠ 30 → tag b ≠ 31 → tag b ≠ 34 → tag b ≠ 35 → tag b ≠ 36 → tag b ≠ 37 → elm F b j = elm Fo b j) := ⟨fun b j n44_8 n44_12 n46_8 n46_9 n46_10 n46_11 n46_12 n46_13 n46_14 n46_15 => (yz21241.1 b j n44_12).trans (hfr.1 b j n44_8 n44_12 n46_8 n46_9 n46_10 n46_11 n46_12 n46_13 n46_14 n46_15), fun b j a30 a31 a34 a35 a36 a37 => (yz21241.2 b j a34 a35 a36).trans (hfr.2 b j a30 a31 a34 a35 a36 a37)⟩
          obtain ⟨z21242, qz21242, hz21242⟩ := xz21241_0
          have rz21242 : 0 ≤ z21242.toInt ∧ z21242.toInt ≤ 32 := by omega
          refine lv_aload_n hx hb dX13_readHouse_159 rfl (lv_at hl 6 rfl) ?_
          refine t_get (C := RX13) (T := TX13) (N := 37) X hT m0 g0 rfl rfl 4 (by decide) qw_477 inlX13 rfl dX13_readHouse_160 (fun v21243 hv21243 ov21243 => ?_)
          obtain rfl : v21243 = .ref x0 := hv21243.symm.trans pf0
          refine t_getN (C := RX12) (T := TX12) (N := 31) X hT mx0 gx0 rfl rfl 21 (by decide) (List.mem_of_getElem? (i := 25) rfl) inlX12 rfl dX13_readHouse_163 (fun v21244 hv21244 ov21244 => ?_)
          obtain ⟨b21245, rfl, mb21245, gb21245⟩ := okV_r ov21244
          have gb21245 : tag b21245 = 30 := tg_of gb21245
          refine lv_iload hx hb dX13_readHouse_166 (lv_at hl 0 rfl) ?_
          refine lv_iload_n hx hb dX13_readHouse_168 rfl (lv_at hl 4 rfl) ?_
          refine t_ist X hT mb21245 gb21245 rfl (by omega) (show 0 ≤ (z21182 : Int32).toInt ∧ (z21182 : Int32).toInt ≤ 143 from (by omega)) dX13_readHouse_169 (fun F H locs hT v21246 h1v21246 h2v21246 => ?_)
          have pf0 := (h2v21246 _ _).trans pf0
          have pf1 := (h2v21246 _ _).trans pf1
          have pf2 := (h2v21246 _ _).trans pf2
          have pf7 := (h2v21246 _ _).trans pf7
          have pf8 := (h2v21246 _ _).trans pf8
          have pf9 := (h2v21246 _ _).trans pf9
          have pf10 := (h2v21246 _ _).trans pf10
          have pf11 := (h2v21246 _ _).trans pf11
          have hv21199 := (h2v21246 _ _).trans hv21199
          have vz21201 := (h1v21246 _ _ (Or.inl (tne gb21200 gb21245 (by decide)))).trans vz21201
          have hv21217 := (h2v21246 _ _).trans hv21217
          have qsoz21232 := (h2v21246 _ _).trans qsoz21232
          have qspz21232 := (h2v21246 _ _).trans qspz21232
          have qfaz21232 := (h2v21246 _ _).trans qfaz21232
          have qz21242 := (h2v21246 _ _).trans qz21242
          have hv21244 := (h2v21246 _ _).trans hv21244
          have hfr : (∀ b j : Nat, (tag b ≠ 44 ∨ j ≠ 8) → (tag b ≠ 44 ∨ j ≠ 12) → (tag b ≠ 46 ∨ j ≠ 8) → (tag b ≠ 46 ∨ j ≠ 9) → (tag b ≠ 46 ∨ j ≠ 10) → (tag b ≠ 46 ∨ j ≠ 11) → (tag b ≠ 46 ∨ j ≠ 12) → (tag b ≠ 46 ∨ j ≠ 13) → (tag b ≠ 46 ∨ j ≠ 14) → (tag b ≠ 46 ∨ j ≠ 15) → fld F b j = fld Fo b j) ∧ (∀ b j : Nat, tag b ≠ 30 → tag b ≠ 31 → tag b ≠ 34 → tag b ≠ 35 → tag b ≠ 36 → tag b ≠ 37 → elm F b j = elm Fo b j) := ⟨fun b j n44_8 n44_12 n46_8 n46_9 n46_10 n46_11 n46_12 n46_13 n46_14 n46_15 => (h2v21246 b j).trans (hfr.1 b j n44_8 n44_12 n46_8 n46_9 n46_10 n46_11 n46_12 n46_13 n46_14 n46_15), fun b j a30 a31 a34 a35 a36 a37 => (h1v21246 b j (Or.inl (at_ne gb21245 a30))).trans (hfr.2 b j a30 a31 a34 a35 a36 a37)⟩
          have hrel := msr_of (fun j => h1v21246 _ j (Or.inl (tne gx1 gb21245 (by decide)))) (fun j => h1v21246 _ j (Or.inl (tne gx2 gb21245 (by decide)))) hrel
          refine lv_aload_n hx hb dX13_readHouse_170 rfl (lv_at hl 6 rfl) ?_
          refine t_get (C := RX13) (T := TX13) (N := 37) X hT m0 g0 rfl rfl 4 (by decide) qw_477 inlX13 rfl dX13_readHouse_171 (fun v21247 hv21247 ov21247 => ?_)
          obtain rfl : v21247 = .ref x0 := hv21247.symm.trans pf0
          refine t_getN (C := RX12) (T := TX12) (N := 31) X hT mx0 gx0 rfl rfl 22 (by decide) (List.mem_of_getElem? (i := 26) rfl) inlX12 rfl dX13_readHouse_174 (fun v21248 hv21248 ov21248 => ?_)
          obtain ⟨b21249, rfl, mb21249, gb21249⟩ := okV_r ov21248
          have gb21249 : tag b21249 = 31 := tg_of gb21249
          refine lv_iload hx hb dX13_readHouse_177 (lv_at hl 0 rfl) ?_
          refine lv_iload hx hb dX13_readHouse_179 (lv_at hl 3 rfl) ?_
          refine t_ist X hT mb21249 gb21249 rfl (by omega) (show 0 ≤ (z21230 : Int32).toInt ∧ (z21230 : Int32).toInt ≤ 3 from (by omega)) dX13_readHouse_181 (fun F H locs hT v21250 h1v21250 h2v21250 => ?_)
          have pf0 := (h2v21250 _ _).trans pf0
          have pf1 := (h2v21250 _ _).trans pf1
          have pf2 := (h2v21250 _ _).trans pf2
          have pf7 := (h2v21250 _ _).trans pf7
          have pf8 := (h2v21250 _ _).trans pf8
          have pf9 := (h2v21250 _ _).trans pf9
          have pf10 := (h2v21250 _ _).trans pf10
          have pf11 := (h2v21250 _ _).trans pf11
          have hv21199 := (h2v21250 _ _).trans hv21199
          have vz21201 := (h1v21250 _ _ (Or.inl (tne gb21200 gb21249 (by decide)))).trans vz21201
          have hv21217 := (h2v21250 _ _).trans hv21217
          have qsoz21232 := (h2v21250 _ _).trans qsoz21232
          have qspz21232 := (h2v21250 _ _).trans qspz21232
          have qfaz21232 := (h2v21250 _ _).trans qfaz21232
          have qz21242 := (h2v21250 _ _).trans qz21242
          have hv21244 := (h2v21250 _ _).trans hv21244
          have v21246 := (h1v21250 _ _ (Or.inl (tne gb21245 gb21249 (by decide)))).trans v21246
          have hv21248 := (h2v21250 _ _).trans hv21248
          have hfr : (∀ b j : Nat, (tag b ≠ 44 ∨ j ≠ 8) → (tag b ≠ 44 ∨ j ≠ 12) → (tag b ≠ 46 ∨ j ≠ 8) → (tag b ≠ 46 ∨ j ≠ 9) → (tag b ≠ 46 ∨ j ≠ 10) → (tag b ≠ 46 ∨ j ≠ 11) → (tag b ≠ 46 ∨ j ≠ 12) → (tag b ≠ 46 ∨ j ≠ 13) → (tag b ≠ 46 ∨ j ≠ 14) → (tag b ≠ 46 ∨ j ≠ 15) → fld F b j = fld Fo b j) ∧ (∀ b j : Nat, tag b ≠ 30 → tag b ≠ 31 → tag b ≠ 34 → tag b ≠ 35 → tag b ≠ 36 → tag b ≠ 37 → elm F b j = elm Fo b j) := ⟨fun b j n44_8 n44_12 n46_8 n46_9 n46_10 n46_11 n46_12 n46_13 n46_14 n46_15 => (h2v21250 b j).trans (hfr.1 b j n44_8 n44_12 n46_8 n46_9 n46_10 n46_11 n46_12 n46_13 n46_14 n46_15), fun b j a30 a31 a34 a35 a36 a37 => (h1v21250 b j (Or.inl (at_ne gb21249 a31))).trans (hfr.2 b j a30 a31 a34 a35 a36 a37)⟩
          have hrel := msr_of (fun j => h1v21250 _ j (Or.inl (tne gx1 gb21249 (by decide)))) (fun j => h1v21250 _ j (Or.inl (tne gx2 gb21249 (by decide)))) hrel
          refine lv_aload_n hx hb dX13_readHouse_182 rfl (lv_at hl 6 rfl) ?_
          refine t_get (C := RX13) (T := TX13) (N := 37) X hT m0 g0 rfl rfl 4 (by decide) qw_477 inlX13 rfl dX13_readHouse_183 (fun v21251 hv21251 ov21251 => ?_)
          obtain rfl : v21251 = .ref x0 := hv21251.symm.trans pf0
          refine t_getN (C := RX12) (T := TX12) (N := 31) X hT mx0 gx0 rfl rfl 30 (by decide) (List.mem_of_getElem? (i := 34) rfl) inlX12 rfl dX13_readHouse_186 (fun v21252 hv21252 ov21252 => ?_)
          obtain rfl : v21252 = .ref b21218 := hv21252.symm.trans hv21217
          refine lv_iconst (v := 4) hx hb dX13_readHouse_189 (by decide) ?_
          refine lv_iload hx hb dX13_readHouse_190 (lv_at hl 0 rfl) ?_
          refine lv_iadd hx hb dX13_readHouse_192 ?_
          refine lv_topi (fun z21253 ez21253 => ?_)
          have hz21253 : z21253.toInt = 4 + x8.toInt := ar_add ez21253 (by decide : (4 : Int32).toInt = 4) (rfl : x8.toInt = x8.toInt) (by omega) (by omega)
          have rz21253 : 4 ≤ z21253.toInt ∧ z21253.toInt ≤ 7 := by omega
          refine lv_iload hx hb dX13_readHouse_193 (lv_at hl 2 rfl) ?_
          refine t_ist X hT mb21218 gb21218 rfl (by omega) (row_fv (by omega) (Or.inl (by omega))) dX13_readHouse_195 (fun F H locs hT v21254 h1v21254 h2v21254 => ?_)
          have pf0 := (h2v21254 _ _).trans pf0
          have pf1 := (h2v21254 _ _).trans pf1
          have pf2 := (h2v21254 _ _).trans pf2
          have pf7 := (h2v21254 _ _).trans pf7
          have pf8 := (h2v21254 _ _).trans pf8
          have pf9 := (h2v21254 _ _).trans pf9
          have pf10 := (h2v21254 _ _).trans pf10
          have pf11 := (h2v21254 _ _).trans pf11
          have hv21199 := (h2v21254 _ _).trans hv21199
          have vz21201 := (h1v21254 _ _ (Or.inl (tne gb21200 gb21218 (by decide)))).trans vz21201
          have hv21217 := (h2v21254 _ _).trans hv21217
          have qsoz21232 := (h2v21254 _ _).trans qsoz21232
          have qspz21232 := (h2v21254 _ _).trans qspz21232
          have qfaz21232 := (h2v21254 _ _).trans qfaz21232
          have qz21242 := (h2v21254 _ _).trans qz21242
          have hv21244 := (h2v21254 _ _).trans hv21244
          have v21246 := (h1v21254 _ _ (Or.inl (tne gb21245 gb21218 (by decide)))).trans v21246
          have hv21248 := (h2v21254 _ _).trans hv21248
          have v21250 := (h1v21254 _ _ (Or.inl (tne gb21249 gb21218 (by decide)))).trans v21250
          have hfr : (∀ b j : Nat, (tag b ≠ 44 ∨ j ≠ 8) → (tag b ≠ 44 ∨ j ≠ 12) → (tag b ≠ 46 ∨ j ≠ 8) → (tag b ≠ 46 ∨ j ≠ 9) → (tag b ≠ 46 ∨ j ≠ 10) → (tag b ≠ 46 ∨ j ≠ 11) → (tag b ≠ 46 ∨ j ≠ 12) → (tag b ≠ 46 ∨ j ≠ 13) → (tag b ≠ 46 ∨ j ≠ 14) → (tag b ≠ 46 ∨ j ≠ 15) → fld F b j = fld Fo b j) ∧ (∀ b j : Nat, tag b ≠ 30 → tag b ≠ 31 → tag b ≠ 34 → tag b ≠ 35 → tag b ≠ 36 → tag b ≠ 37 → elm F b j = elm Fo b j) := ⟨fun b j n44_8 n44_12 n46_8 n46_9 n46_10 n46_11 n46_12 n46_13 n46_14 n46_15 => (h2v21254 b j).trans (hfr.1 b j n44_8 n44_12 n46_8 n46_9 n46_10 n46_11 n46_12 n46_13 n46_14 n46_15), fun b j a30 a31 a34 a35 a36 a37 => (h1v21254 b j (Or.inl (at_ne gb21218 a37))).trans (hfr.2 b j a30 a31 a34 a35 a36 a37)⟩
          have hrel := msr_of (fun j => h1v21254 _ j (Or.inl (tne gx1 gb21218 (by decide)))) (fun j => h1v21254 _ j (Or.inl (tne gx2 gb21218 (by decide)))) hrel
          refine lv_aload_n hx hb dX13_readHouse_196 rfl (lv_at hl 6 rfl) ?_
          refine t_get (C := RX13) (T := TX13) (N := 37) X hT m0 g0 rfl rfl 4 (by decide) qw_477 inlX13 rfl dX13_readHouse_197 (fun v21255 hv21255 ov21255 => ?_)
          obtain rfl : v21255 = .ref x0 := hv21255.symm.trans pf0
          refine t_getN (C := RX12) (T := TX12) (N := 31) X hT mx0 gx0 rfl rfl 30 (by decide) (List.mem_of_getElem? (i := 34) rfl) inlX12 rfl dX13_readHouse_200 (fun v21256 hv21256 ov21256 => ?_)
          obtain rfl : v21256 = .ref b21218 := hv21256.symm.trans hv21217
          refine lv_bipush (v := 8) hx hb dX13_readHouse_203 (by decide) ?_
          refine lv_iload hx hb dX13_readHouse_205 (lv_at hl 0 rfl) ?_
          refine lv_iadd hx hb dX13_readHouse_207 ?_
          refine lv_topi (fun z21257 ez21257 => ?_)
          have hz21257 : z21257.toInt = 8 + x8.toInt := ar_add ez21257 (by decide : (8 : Int32).toInt = 8) (rfl : x8.toInt = x8.toInt) (by omega) (by omega)
          have rz21257 : 8 ≤ z21257.toInt ∧ z21257.toInt ≤ 11 := by omega
          refine lv_iload hx hb dX13_readHouse_208 (lv_at hl 1 rfl) ?_
          refine t_ist X hT mb21218 gb21218 rfl (by omega) (row_fv (by omega) (Or.inl (by omega))) dX13_readHouse_210 (fun F H locs hT v21258 h1v21258 h2v21258 => ?_)
          have pf0 := (h2v21258 _ _).trans pf0
          have pf1 := (h2v21258 _ _).trans pf1
          have pf2 := (h2v21258 _ _).trans pf2
          have pf7 := (h2v21258 _ _).trans pf7
          have pf8 := (h2v21258 _ _).trans pf8
          have pf9 := (h2v21258 _ _).trans pf9
          have pf10 := (h2v21258 _ _).trans pf10
          have pf11 := (h2v21258 _ _).trans pf11
          have hv21199 := (h2v21258 _ _).trans hv21199
          have vz21201 := (h1v21258 _ _ (Or.inl (tne gb21200 gb21218 (by decide)))).trans vz21201
          have hv21217 := (h2v21258 _ _).trans hv21217
          have qsoz21232 := (h2v21258 _ _).trans qsoz21232
          have qspz21232 := (h2v21258 _ _).trans qspz21232
          have qfaz21232 := (h2v21258 _ _).trans qfaz21232
          have qz21242 := (h2v21258 _ _).trans qz21242
          have hv21244 := (h2v21258 _ _).trans hv21244
          have v21246 := (h1v21258 _ _ (Or.inl (tne gb21245 gb21218 (by decide)))).trans v21246
          have hv21248 := (h2v21258 _ _).trans hv21248
          have v21250 := (h1v21258 _ _ (Or.inl (tne gb21249 gb21218 (by decide)))).trans v21250
          have v21254 := (h1v21258 _ _ (Or.inr (ine (by omega) (by omega) (by omega)))).trans v21254
          have hfr : (∀ b j : Nat, (tag b ≠ 44 ∨ j ≠ 8) → (tag b ≠ 44 ∨ j ≠ 12) → (tag b ≠ 46 ∨ j ≠ 8) → (tag b ≠ 46 ∨ j ≠ 9) → (tag b ≠ 46 ∨ j ≠ 10) → (tag b ≠ 46 ∨ j ≠ 11) → (tag b ≠ 46 ∨ j ≠ 12) → (tag b ≠ 46 ∨ j ≠ 13) → (tag b ≠ 46 ∨ j ≠ 14) → (tag b ≠ 46 ∨ j ≠ 15) → fld F b j = fld Fo b j) ∧ (∀ b j : Nat, tag b ≠ 30 → tag b ≠ 31 → tag b ≠ 34 → tag b ≠ 35 → tag b ≠ 36 → tag b ≠ 37 → elm F b j = elm Fo b j) := ⟨fun b j n44_8 n44_12 n46_8 n46_9 n46_10 n46_11 n46_12 n46_13 n46_14 n46_15 => (h2v21258 b j).trans (hfr.1 b j n44_8 n44_12 n46_8 n46_9 n46_10 n46_11 n46_12 n46_13 n46_14 n46_15), fun b j a30 a31 a34 a35 a36 a37 => (h1v21258 b j (Or.inl (at_ne gb21218 a37))).trans (hfr.2 b j a30 a31 a34 a35 a36 a37)⟩
          have hrel := msr_of (fun j => h1v21258 _ j (Or.inl (tne gx1 gb21218 (by decide)))) (fun j => h1v21258 _ j (Or.inl (tne gx2 gb21218 (by decide)))) hrel
          refine lv_aload_n hx hb dX13_readHouse_211 rfl (lv_at hl 6 rfl) ?_
          refine t_get (C := RX13) (T := TX13) (N := 37) X hT m0 g0 rfl rfl 4 (by decide) qw_477 inlX13 rfl dX13_readHouse_212 (fun v21259 hv21259 ov21259 => ?_)
          obtain rfl : v21259 = .ref x0 := hv21259.symm.trans pf0
          refine lv_dup hx hb dX13_readHouse_215 rfl ?_
          refine t_getN (C := RX12) (T := TX12) (N := 31) X hT mx0 gx0 rfl rfl 8 (by decide) (List.mem_of_getElem? (i := 12) rfl) inlX12 rfl dX13_readHouse_216 (fun v21260 hv21260 ov21260 => ?_)
          obtain rfl : v21260 = .int x8 := hv21260.symm.trans pf8
          refine lv_iconst (v := 1) hx hb dX13_readHouse_219 (by decide) ?_
          refine lv_iadd hx hb dX13_readHouse_220 ?_
          refine lv_topi (fun z21261 ez21261 => ?_)
          have hz21261 : z21261.toInt = x8.toInt + 1 := ar_add ez21261 (rfl : x8.toInt = x8.toInt) (by decide : (1 : Int32).toInt = 1) (by omega) (by omega)
          have rz21261 : 1 ≤ z21261.toInt ∧ z21261.toInt ≤ 4 := by omega
          refine t_putN (C := RX12) (T := TX12) (N := 31) (v := .int z21261) X hT mx0 gx0 rfl tyX12 tyX12_ok nmX12 rfl 8 (by decide) (List.mem_of_getElem? (i := 12) rfl) inlX12 rfl (by first | rfl | decide) (by first | rfl | decide) rfl (⟨_, rfl, (show 0 ≤ (z21261 : Int32).toInt from (by omega)), (show (z21261 : Int32).toInt ≤ 4 from (by omega))⟩) dX13_readHouse_221 (fun F H locs hT v21262 h1v21262 h2v21262 => ?_)
          have pf0 := (h1v21262 _ _ (Or.inr (by decide))).trans pf0
          have pf1 := (h1v21262 _ _ (Or.inr (by decide))).trans pf1
          have pf2 := (h1v21262 _ _ (Or.inr (by decide))).trans pf2
          have pf7 := (h1v21262 _ _ (Or.inr (by decide))).trans pf7
          have pf9 := (h1v21262 _ _ (Or.inr (by decide))).trans pf9
          have pf10 := (h1v21262 _ _ (Or.inr (by decide))).trans pf10
          have pf11 := (h1v21262 _ _ (Or.inr (by decide))).trans pf11
          have hv21199 := (h1v21262 _ _ (Or.inr (by decide))).trans hv21199
          have vz21201 := (h2v21262 _ _).trans vz21201
          have hv21217 := (h1v21262 _ _ (Or.inr (by decide))).trans hv21217
          have qsoz21232 := (h1v21262 _ _ (Or.inr (by decide))).trans qsoz21232
          have qspz21232 := (h1v21262 _ _ (Or.inl (tne g0 gx0 (by decide)))).trans qspz21232
          have qfaz21232 := (h1v21262 _ _ (Or.inr (by decide))).trans qfaz21232
          have qz21242 := (h1v21262 _ _ (Or.inr (by decide))).trans qz21242
          have hv21244 := (h1v21262 _ _ (Or.inr (by decide))).trans hv21244
          have v21246 := (h2v21262 _ _).trans v21246
          have hv21248 := (h1v21262 _ _ (Or.inr (by decide))).trans hv21248
          have v21250 := (h2v21262 _ _).trans v21250
          have v21254 := (h2v21262 _ _).trans v21254
          have v21258 := (h2v21262 _ _).trans v21258
          have hfr : (∀ b j : Nat, (tag b ≠ 44 ∨ j ≠ 8) → (tag b ≠ 44 ∨ j ≠ 12) → (tag b ≠ 46 ∨ j ≠ 8) → (tag b ≠ 46 ∨ j ≠ 9) → (tag b ≠ 46 ∨ j ≠ 10) → (tag b ≠ 46 ∨ j ≠ 11) → (tag b ≠ 46 ∨ j ≠ 12) → (tag b ≠ 46 ∨ j ≠ 13) → (tag b ≠ 46 ∨ j ≠ 14) → (tag b ≠ 46 ∨ j ≠ 15) → fld F b j = fld Fo b j) ∧ (∀ b j : Nat, tag b ≠ 30 → tag b ≠ 31 → tag b ≠ 34 → tag b ≠ 35 → tag b ≠ 36 → tag b ≠ 37 → elm F b j = elm Fo b j) := ⟨fun b j n44_8 n44_12 n46_8 n46_9 n46_10 n46_11 n46_12 n46_13 n46_14 n46_15 => (h1v21262 b j (fr_ne gx0 n44_8)).trans (hfr.1 b j n44_8 n44_12 n46_8 n46_9 n46_10 n46_11 n46_12 n46_13 n46_14 n46_15), fun b j a30 a31 a34 a35 a36 a37 => (h2v21262 b j).trans (hfr.2 b j a30 a31 a34 a35 a36 a37)⟩
          have hrel := msr_of (fun j => h2v21262 _ j) (fun j => h2v21262 _ j) hrel
          have hpu9 := hpl
          unfold PLr at hpu9
          have hpl : PLr z21242 x7 z21261 x9 x10 x11 := ⟨by omega, fun _ => by omega⟩
          exact t_vret hQ X hT ⟨hfr, hrel, ⟨soz21232, spz21232, faz21232, qsoz21232, qspz21232, qfaz21232, (by omega), (by omega), (by omega), hstk, hspt, hkf⟩, ⟨z21242, x7, z21261, x9, x10, x11, qz21242, pf7, v21262, pf9, pf10, pf11, (by omega), (by omega), (by omega), (by omega), (by omega), (by omega), hpl⟩⟩ (Nat.le_of_ble_eq_true rfl) (Nat.le_of_ble_eq_true rfl) dX13_readHouse_224
        · have w21263 := cv_eq (rfl : soz21232.toInt = soz21232.toInt) (by decide : (5 : Int32).toInt = 5) c21234
          exact t_vret hQ X hT ⟨hfr, hrel, ⟨soz21232, spz21232, faz21232, qsoz21232, qspz21232, qfaz21232, (by omega), (by omega), (by omega), hstk, hspt, hkf⟩, ⟨x6, x7, x8, x9, x10, x11, pf6, pf7, pf8, pf9, pf10, pf11, (by omega), (by omega), (by omega), (by omega), (by omega), (by omega), hpl⟩⟩ (Nat.le_of_ble_eq_true rfl) (Nat.le_of_ble_eq_true rfl) dX13_readHouse_141
      · have w21264 := cv_ne (rfl : z21225.toInt = z21225.toInt) (by decide : (0 : Int32).toInt = 0) c21226
        refine lv_aload_n hx hb dX13_readHouse_84 rfl (lv_at hl 2 rfl) ?_
        refine lv_bipush (v := 7) hx hb dX13_readHouse_85 (by decide) ?_
        refine t_cVv (n := 1) (C := RX13) (T := TX13) (N := 37) (As := [.int 7]) (rest := []) X hT (km10_X13_flaw l G tag L F hT.2.2.2 p0 7 x0 x1 x2 soz21182 spz21182 faz21182 m0 g0 (by decide) mx0 gx0 pf0 mx1 gx1 pf1 mx2 gx2 pf2 (by omega) qsoz21182 (by omega) qspz21182 (by omega) qfaz21182 hkf) m0 g0 rfl rfl qw_548 qw_549 qw_550 qw_5 qw_551 ⟨rfl, by decide +kernel, by decide +kernel, by decide +kernel⟩ ⟨Nat.le_of_ble_eq_true rfl, Nat.le_of_ble_eq_true rfl⟩ hl rfl rfl (Nat.le_of_ble_eq_true rfl) dX13_readHouse_87 ⟨Nat.le_of_ble_eq_true rfl, Nat.le_of_ble_eq_true rfl⟩ (fun F H locs hT hz21265 => ?_)
        obtain ⟨yz21265, ⟨soz21265, spz21265, faz21265, qsoz21265, qspz21265, qfaz21265, rsoz21265, rspz21265, rfaz21265, stz21265, ptz21265, hkf, pxz21265_0⟩⟩ := hz21265
        have pf0 := (yz21265.1 _ 4 (Or.inr (by decide)) (Or.inr (by decide)) (Or.inr (by decide))).trans pf0
        have pf1 := (yz21265.1 _ 28 (Or.inr (by decide)) (Or.inr (by decide)) (Or.inr (by decide))).trans pf1
        have pf2 := (yz21265.1 _ 29 (Or.inr (by decide)) (Or.inr (by decide)) (Or.inr (by decide))).trans pf2
        have pf6 := (yz21265.1 _ 12 (Or.inr (by decide)) (Or.inr (by decide)) (Or.inr (by decide))).trans pf6
        have pf7 := (yz21265.1 _ 7 (Or.inr (by decide)) (Or.inr (by decide)) (Or.inr (by decide))).trans pf7
        have pf8 := (yz21265.1 _ 8 (Or.inr (by decide)) (Or.inr (by decide)) (Or.inr (by decide))).trans pf8
        have pf9 := (yz21265.1 _ 9 (Or.inl (by rw [gx0]; decide)) (Or.inr (by decide)) (Or.inr (by decide))).trans pf9
        have pf10 := (yz21265.1 _ 10 (Or.inr (by decide)) (Or.inr (by decide)) (Or.inr (by decide))).trans pf10
        have pf11 := (yz21265.1 _ 0 (Or.inr (by decide)) (Or.inr (by decide)) (Or.inr (by decide))).trans pf11
        have qspz21182 := (yz21265.1 _ 8 (Or.inr (by decide)) (Or.inr (by decide)) (Or.inr (by decide))).trans qspz21182
        have hv21199 := (yz21265.1 _ 15 (Or.inr (by decide)) (Or.inr (by decide)) (Or.inr (by decide))).trans hv21199
        have vz21201 := (yz21265.2 _ _ ).trans vz21201
        have hv21217 := (yz21265.1 _ 30 (Or.inr (by decide)) (Or.inr (by decide)) (Or.inr (by decide))).trans hv21217
        have hfr : (∀ b j : Nat, (tag b ≠ 44 ∨ j ≠ 8) → (tag b ≠ 44 ∨ j ≠ 12) → (tag b ≠ 46 ∨ j ≠ 8) → (tag b ≠ 46 ∨ j ≠ 9) → (tag b ≠ 46 ∨ j ≠ 10) → (tag b ≠ 46 ∨ j ≠ 11) → (tag b ≠ 46 ∨ j ≠ 12) → (tag b ≠ 46 ∨ j ≠ 13) → (tag b ≠ 46 ∨ j ≠ 14) → (tag b ≠ 46 ∨ j ≠ 15) → fld F b j = fld Fo b j) ∧ (∀ b j : Nat, tag b ≠ 30 → tag b ≠ 31 → tag b ≠ 34 → tag b ≠ 35 → tag b ≠ 36 → tag b ≠ 37 → elm F b j = elm Fo b j) := ⟨fun b j n44_8 n44_12 n46_8 n46_9 n46_10 n46_11 n46_12 n46_13 n46_14 n46_15 => (yz21265.1 b j n46_9 n46_13 n46_14).trans (hfr.1 b j n44_8 n44_12 n46_8 n46_9 n46_10 n46_11 n46_12 n46_13 n46_14 n46_15), fun b j a30 a31 a34 a35 a36 a37 => (yz21265.2 b j ).trans (hfr.2 b j a30 a31 a34 a35 a36 a37)⟩
        have hrel := msr_of (fun j => yz21265.2 _ j ) (fun j => yz21265.2 _ j ) hrel
        have hstk := STK.tr hstk stz21265
        have hspt := SPT.tr hspt ptz21265
        refine lv_aload_n hx hb dX13_readHouse_90 rfl (lv_at hl 2 rfl) ?_
        refine t_cVv (n := 0) (C := RX13) (T := TX13) (N := 37) (As := []) (rest := []) X hT (km14_X13_goesOn l G tag L F hT.2.2.2 p0 x0 x1 x2 soz21265 spz21265 faz21265 m0 g0 mx0 gx0 pf0 mx1 gx1 pf1 mx2 gx2 pf2 (by omega) qsoz21265 (by omega) qspz21265 (by omega) qfaz21265 hkf) m0 g0 rfl rfl qw_508 qw_509 qw_510 qw_5 qw_511 ⟨rfl, by decide +kernel, by decide +kernel, by decide +kernel⟩ ⟨Nat.le_of_ble_eq_true rfl, Nat.le_of_ble_eq_true rfl⟩ hl rfl rfl (Nat.le_of_ble_eq_true rfl) dX13_readHouse_91 ⟨Nat.le_of_ble_eq_true rfl, Nat.le_of_ble_eq_true rfl⟩ (fun F H locs hT hz21266 => ?_)
        obtain ⟨yz21266, ⟨soz21266, spz21266, faz21266, qsoz21266, qspz21266, qfaz21266, rsoz21266, rspz21266, rfaz21266, stz21266, ptz21266, hkf⟩⟩ := hz21266
        have pf0 := (yz21266.1 _ 4 (Or.inr (by decide)) (Or.inr (by decide)) (Or.inr (by decide)) (Or.inr (by decide)) (Or.inr (by decide)) (Or.inr (by decide))).trans pf0
        have pf1 := (yz21266.1 _ 28 (Or.inr (by decide)) (Or.inr (by decide)) (Or.inr (by decide)) (Or.inr (by decide)) (Or.inr (by decide)) (Or.inr (by decide))).trans pf1
        have pf2 := (yz21266.1 _ 29 (Or.inr (by decide)) (Or.inr (by decide)) (Or.inr (by decide)) (Or.inr (by decide)) (Or.inr (by decide)) (Or.inr (by decide))).trans pf2
        have pf6 := (yz21266.1 _ 12 (Or.inr (by decide)) (Or.inr (by decide)) (Or.inr (by decide)) (Or.inr (by decide)) (Or.inl (by rw [gx0]; decide)) (Or.inr (by decide))).trans pf6
        have pf7 := (yz21266.1 _ 7 (Or.inr (by decide)) (Or.inr (by decide)) (Or.inr (by decide)) (Or.inr (by decide)) (Or.inr (by decide)) (Or.inr (by decide))).trans pf7
        have pf8 := (yz21266.1 _ 8 (Or.inl (by rw [gx0]; decide)) (Or.inr (by decide)) (Or.inr (by decide)) (Or.inr (by decide)) (Or.inr (by decide)) (Or.inr (by decide))).trans pf8
        have pf9 := (yz21266.1 _ 9 (Or.inr (by decide)) (Or.inl (by rw [gx0]; decide)) (Or.inr (by decide)) (Or.inr (by decide)) (Or.inr (by decide)) (Or.inr (by decide))).trans pf9
        have pf10 := (yz21266.1 _ 10 (Or.inr (by decide)) (Or.inr (by decide)) (Or.inl (by rw [gx0]; decide)) (Or.inr (by decide)) (Or.inr (by decide)) (Or.inr (by decide))).trans pf10
        have pf11 := (yz21266.1 _ 0 (Or.inr (by decide)) (Or.inr (by decide)) (Or.inr (by decide)) (Or.inr (by decide)) (Or.inr (by decide)) (Or.inr (by decide))).trans pf11
        have hv21199 := (yz21266.1 _ 15 (Or.inr (by decide)) (Or.inr (by decide)) (Or.inr (by decide)) (Or.inr (by decide)) (Or.inr (by decide)) (Or.inl (by rw [gx0]; decide))).trans hv21199
        have vz21201 := (yz21266.2 _ _ ).trans vz21201
        have hv21217 := (yz21266.1 _ 30 (Or.inr (by decide)) (Or.inr (by decide)) (Or.inr (by decide)) (Or.inr (by decide)) (Or.inr (by decide)) (Or.inr (by decide))).trans hv21217
        have qfaz21265 := (yz21266.1 _ 13 (Or.inr (by decide)) (Or.inr (by decide)) (Or.inr (by decide)) (Or.inr (by decide)) (Or.inr (by decide)) (Or.inr (by decide))).trans qfaz21265
        have hfr : (∀ b j : Nat, (tag b ≠ 44 ∨ j ≠ 8) → (tag b ≠ 44 ∨ j ≠ 12) → (tag b ≠ 46 ∨ j ≠ 8) → (tag b ≠ 46 ∨ j ≠ 9) → (tag b ≠ 46 ∨ j ≠ 10) → (tag b ≠ 46 ∨ j ≠ 11) → (tag b ≠ 46 ∨ j ≠ 12) → (tag b ≠ 46 ∨ j ≠ 13) → (tag b ≠ 46 ∨ j ≠ 14) → (tag b ≠ 46 ∨ j ≠ 15) → fld F b j = fld Fo b j) ∧ (∀ b j : Nat, tag b ≠ 30 → tag b ≠ 31 → tag b ≠ 34 → tag b ≠ 35 → tag b ≠ 36 → tag b ≠ 37 → elm F b j = elm Fo b j) := ⟨fun b j n44_8 n44_12 n46_8 n46_9 n46_10 n46_11 n46_12 n46_13 n46_14 n46_15 => (yz21266.1 b j n46_8 n46_9 n46_10 n46_11 n46_12 n46_15).trans (hfr.1 b j n44_8 n44_12 n46_8 n46_9 n46_10 n46_11 n46_12 n46_13 n46_14 n46_15), fun b j a30 a31 a34 a35 a36 a37 => (yz21266.2 b j ).trans (hfr.2 b j a30 a31 a34 a35 a36 a37)⟩
        have hrel := msr_of (fun j => yz21266.2 _ j ) (fun j => yz21266.2 _ j ) hrel
        have hstk := STK.tr hstk stz21266
        have hspt := SPT.tr hspt ptz21266
        have k5z21266 : soz21266.toInt = 5 := stz21266 (by omega)
        refine lv_aload_n hx hb dX13_readHouse_94 rfl (lv_at hl 2 rfl) ?_
        refine m_ldcKw X 69 rfl dX13_readHouse_95 ?_
        refine t_cVv (n := 1) (C := RX13) (T := TX13) (N := 37) (As := [.ref (G.2 (100 + 69))]) (rest := []) X hT (km40_X13_needs l G tag L F hT.2.2.2 p0 69 x0 x1 x2 soz21266 spz21266 faz21266 m0 g0 (by decide) mx0 gx0 pf0 mx1 gx1 pf1 mx2 gx2 pf2 (by omega) qsoz21266 (by omega) qspz21266 (by omega) qfaz21266 hkf) m0 g0 rfl rfl qw_556 qw_557 qw_558 qw_5 qw_559 ⟨rfl, by decide +kernel, by decide +kernel, by decide +kernel⟩ ⟨Nat.le_of_ble_eq_true rfl, Nat.le_of_ble_eq_true rfl⟩ hl rfl rfl (Nat.le_of_ble_eq_true rfl) dX13_readHouse_98 ⟨Nat.le_of_ble_eq_true rfl, Nat.le_of_ble_eq_true rfl⟩ (fun F H locs hT hz21267 => ?_)
        obtain ⟨yz21267, ⟨soz21267, spz21267, faz21267, qsoz21267, qspz21267, qfaz21267, rsoz21267, rspz21267, rfaz21267, stz21267, ptz21267, hkf⟩⟩ := hz21267
        have pf0 := (yz21267.1 _ 4 (Or.inr (by decide)) (Or.inr (by decide)) (Or.inr (by decide)) (Or.inr (by decide)) (Or.inr (by decide)) (Or.inr (by decide)) (Or.inr (by decide)) (Or.inr (by decide))).trans pf0
        have pf1 := (yz21267.1 _ 28 (Or.inr (by decide)) (Or.inr (by decide)) (Or.inr (by decide)) (Or.inr (by decide)) (Or.inr (by decide)) (Or.inr (by decide)) (Or.inr (by decide)) (Or.inr (by decide))).trans pf1
        have pf2 := (yz21267.1 _ 29 (Or.inr (by decide)) (Or.inr (by decide)) (Or.inr (by decide)) (Or.inr (by decide)) (Or.inr (by decide)) (Or.inr (by decide)) (Or.inr (by decide)) (Or.inr (by decide))).trans pf2
        have pf6 := (yz21267.1 _ 12 (Or.inr (by decide)) (Or.inr (by decide)) (Or.inr (by decide)) (Or.inr (by decide)) (Or.inl (by rw [gx0]; decide)) (Or.inr (by decide)) (Or.inr (by decide)) (Or.inr (by decide))).trans pf6
        have pf7 := (yz21267.1 _ 7 (Or.inr (by decide)) (Or.inr (by decide)) (Or.inr (by decide)) (Or.inr (by decide)) (Or.inr (by decide)) (Or.inr (by decide)) (Or.inr (by decide)) (Or.inr (by decide))).trans pf7
        have pf8 := (yz21267.1 _ 8 (Or.inl (by rw [gx0]; decide)) (Or.inr (by decide)) (Or.inr (by decide)) (Or.inr (by decide)) (Or.inr (by decide)) (Or.inr (by decide)) (Or.inr (by decide)) (Or.inr (by decide))).trans pf8
        have pf9 := (yz21267.1 _ 9 (Or.inr (by decide)) (Or.inl (by rw [gx0]; decide)) (Or.inr (by decide)) (Or.inr (by decide)) (Or.inr (by decide)) (Or.inr (by decide)) (Or.inr (by decide)) (Or.inr (by decide))).trans pf9
        have pf10 := (yz21267.1 _ 10 (Or.inr (by decide)) (Or.inr (by decide)) (Or.inl (by rw [gx0]; decide)) (Or.inr (by decide)) (Or.inr (by decide)) (Or.inr (by decide)) (Or.inr (by decide)) (Or.inr (by decide))).trans pf10
        have pf11 := (yz21267.1 _ 0 (Or.inr (by decide)) (Or.inr (by decide)) (Or.inr (by decide)) (Or.inr (by decide)) (Or.inr (by decide)) (Or.inr (by decide)) (Or.inr (by decide)) (Or.inr (by decide))).trans pf11
        have hv21199 := (yz21267.1 _ 15 (Or.inr (by decide)) (Or.inr (by decide)) (Or.inr (by decide)) (Or.inr (by decide)) (Or.inr (by decide)) (Or.inr (by decide)) (Or.inr (by decide)) (Or.inl (by rw [gx0]; decide))).trans hv21199
        have vz21201 := (yz21267.2 _ _ ).trans vz21201
        have hv21217 := (yz21267.1 _ 30 (Or.inr (by decide)) (Or.inr (by decide)) (Or.inr (by decide)) (Or.inr (by decide)) (Or.inr (by decide)) (Or.inr (by decide)) (Or.inr (by decide)) (Or.inr (by decide))).trans hv21217
        have hfr : (∀ b j : Nat, (tag b ≠ 44 ∨ j ≠ 8) → (tag b ≠ 44 ∨ j ≠ 12) → (tag b ≠ 46 ∨ j ≠ 8) → (tag b ≠ 46 ∨ j ≠ 9) → (tag b ≠ 46 ∨ j ≠ 10) → (tag b ≠ 46 ∨ j ≠ 11) → (tag b ≠ 46 ∨ j ≠ 12) → (tag b ≠ 46 ∨ j ≠ 13) → (tag b ≠ 46 ∨ j ≠ 14) → (tag b ≠ 46 ∨ j ≠ 15) → fld F b j = fld Fo b j) ∧ (∀ b j : Nat, tag b ≠ 30 → tag b ≠ 31 → tag b ≠ 34 → tag b ≠ 35 → tag b ≠ 36 → tag b ≠ 37 → elm F b j = elm Fo b j) := ⟨fun b j n44_8 n44_12 n46_8 n46_9 n46_10 n46_11 n46_12 n46_13 n46_14 n46_15 => (yz21267.1 b j n46_8 n46_9 n46_10 n46_11 n46_12 n46_13 n46_14 n46_15).trans (hfr.1 b j n44_8 n44_12 n46_8 n46_9 n46_10 n46_11 n46_12 n46_13 n46_14 n46_15), fun b j a30 a31 a34 a35 a36 a37 => (yz21267.2 b j ).trans (hfr.2 b j a30 a31 a34 a35 a36 a37)⟩
        have hrel := msr_of (fun j => yz21267.2 _ j ) (fun j => yz21267.2 _ j ) hrel
        have hstk := STK.tr hstk stz21267
        have hspt := SPT.tr hspt ptz21267
        have k5z21267 : soz21267.toInt = 5 := stz21267 (by omega)
        refine lv_aload_n hx hb dX13_readHouse_101 rfl (lv_at hl 2 rfl) ?_
        refine lv_iconst (v := 0) hx hb dX13_readHouse_102 (by decide) ?_
        refine t_cVi (n := 1) (C := RX13) (T := TX13) (N := 37) (As := [.int 0]) (rest := []) X hT (km36_X13_readKnown l G tag L F hT.2.2.2 p0 0 x0 x1 x2 soz21267 spz21267 faz21267 m0 g0 (by decide) mx0 gx0 pf0 mx1 gx1 pf1 mx2 gx2 pf2 (by omega) qsoz21267 (by omega) qspz21267 (by omega) qfaz21267 hrel hkf) m0 g0 rfl rfl qw_632 qw_633 qw_634 qw_5 qw_635 ⟨rfl, by decide +kernel, by decide +kernel, by decide +kernel⟩ ⟨Nat.le_of_ble_eq_true rfl, Nat.le_of_ble_eq_true rfl⟩ hl rfl rfl (Nat.le_of_ble_eq_true rfl) dX13_readHouse_103 ⟨Nat.le_of_ble_eq_true rfl, Nat.le_of_ble_eq_true rfl⟩ (fun z21268 F H locs hT hz21268 => ?_)
        obtain ⟨hz21268, yz21268, hrel, ⟨soz21268, spz21268, faz21268, qsoz21268, qspz21268, qfaz21268, rsoz21268, rspz21268, rfaz21268, stz21268, ptz21268, hkf⟩⟩ := hz21268
        have pf0 := (yz21268.1 _ 4 (Or.inr (by decide)) (Or.inr (by decide)) (Or.inr (by decide)) (Or.inr (by decide)) (Or.inr (by decide)) (Or.inr (by decide)) (Or.inr (by decide)) (Or.inr (by decide))).trans pf0
        have pf1 := (yz21268.1 _ 28 (Or.inr (by decide)) (Or.inr (by decide)) (Or.inr (by decide)) (Or.inr (by decide)) (Or.inr (by decide)) (Or.inr (by decide)) (Or.inr (by decide)) (Or.inr (by decide))).trans pf1
        have pf2 := (yz21268.1 _ 29 (Or.inr (by decide)) (Or.inr (by decide)) (Or.inr (by decide)) (Or.inr (by decide)) (Or.inr (by decide)) (Or.inr (by decide)) (Or.inr (by decide)) (Or.inr (by decide))).trans pf2
        have pf6 := (yz21268.1 _ 12 (Or.inr (by decide)) (Or.inr (by decide)) (Or.inr (by decide)) (Or.inr (by decide)) (Or.inl (by rw [gx0]; decide)) (Or.inr (by decide)) (Or.inr (by decide)) (Or.inr (by decide))).trans pf6
        have pf7 := (yz21268.1 _ 7 (Or.inr (by decide)) (Or.inr (by decide)) (Or.inr (by decide)) (Or.inr (by decide)) (Or.inr (by decide)) (Or.inr (by decide)) (Or.inr (by decide)) (Or.inr (by decide))).trans pf7
        have pf8 := (yz21268.1 _ 8 (Or.inl (by rw [gx0]; decide)) (Or.inr (by decide)) (Or.inr (by decide)) (Or.inr (by decide)) (Or.inr (by decide)) (Or.inr (by decide)) (Or.inr (by decide)) (Or.inr (by decide))).trans pf8
        have pf9 := (yz21268.1 _ 9 (Or.inr (by decide)) (Or.inl (by rw [gx0]; decide)) (Or.inr (by decide)) (Or.inr (by decide)) (Or.inr (by decide)) (Or.inr (by decide)) (Or.inr (by decide)) (Or.inr (by decide))).trans pf9
        have pf10 := (yz21268.1 _ 10 (Or.inr (by decide)) (Or.inr (by decide)) (Or.inl (by rw [gx0]; decide)) (Or.inr (by decide)) (Or.inr (by decide)) (Or.inr (by decide)) (Or.inr (by decide)) (Or.inr (by decide))).trans pf10
        have pf11 := (yz21268.1 _ 0 (Or.inr (by decide)) (Or.inr (by decide)) (Or.inr (by decide)) (Or.inr (by decide)) (Or.inr (by decide)) (Or.inr (by decide)) (Or.inr (by decide)) (Or.inr (by decide))).trans pf11
        have hv21199 := (yz21268.1 _ 15 (Or.inr (by decide)) (Or.inr (by decide)) (Or.inr (by decide)) (Or.inr (by decide)) (Or.inr (by decide)) (Or.inr (by decide)) (Or.inr (by decide)) (Or.inl (by rw [gx0]; decide))).trans hv21199
        have vz21201 := (yz21268.2 _ _ ).trans vz21201
        have hv21217 := (yz21268.1 _ 30 (Or.inr (by decide)) (Or.inr (by decide)) (Or.inr (by decide)) (Or.inr (by decide)) (Or.inr (by decide)) (Or.inr (by decide)) (Or.inr (by decide)) (Or.inr (by decide))).trans hv21217
        have hfr : (∀ b j : Nat, (tag b ≠ 44 ∨ j ≠ 8) → (tag b ≠ 44 ∨ j ≠ 12) → (tag b ≠ 46 ∨ j ≠ 8) → (tag b ≠ 46 ∨ j ≠ 9) → (tag b ≠ 46 ∨ j ≠ 10) → (tag b ≠ 46 ∨ j ≠ 11) → (tag b ≠ 46 ∨ j ≠ 12) → (tag b ≠ 46 ∨ j ≠ 13) → (tag b ≠ 46 ∨ j ≠ 14) → (tag b ≠ 46 ∨ j ≠ 15) → fld F b j = fld Fo b j) ∧ (∀ b j : Nat, tag b ≠ 30 → tag b ≠ 31 → tag b ≠ 34 → tag b ≠ 35 → tag b ≠ 36 → tag b ≠ 37 → elm F b j = elm Fo b j) := ⟨fun b j n44_8 n44_12 n46_8 n46_9 n46_10 n46_11 n46_12 n46_13 n46_14 n46_15 => (yz21268.1 b j n46_8 n46_9 n46_10 n46_11 n46_12 n46_13 n46_14 n46_15).trans (hfr.1 b j n44_8 n44_12 n46_8 n46_9 n46_10 n46_11 n46_12 n46_13 n46_14 n46_15), fun b j a30 a31 a34 a35 a36 a37 => (yz21268.2 b j ).trans (hfr.2 b j a30 a31 a34 a35 a36 a37)⟩
        have hstk := STK.tr hstk stz21268
        have hspt := SPT.tr hspt ptz21268
        have k5z21268 : soz21268.toInt = 5 := stz21268 (by omega)
        refine lv_istore (lv' := [(4, .int z21268), (3, .int z21182), (1, .long z21180), (0, .ref p0)]) hx hb dX13_readHouse_106 hl (by decide) rfl (fun ls hl => ?_)
        refine lv_aload_n hx hb dX13_readHouse_108 rfl (lv_at hl 3 rfl) ?_
        refine m_ldcKw X 70 rfl dX13_readHouse_109 ?_
        refine lv_iconst (v := 0) hx hb dX13_readHouse_112 (by decide) ?_
        refine lv_bipush (v := 99) hx hb dX13_readHouse_113 (by decide) ?_
        refine t_cVi (n := 3) (C := RX13) (T := TX13) (N := 37) (As := [.ref (G.2 (100 + 70)), .int 0, .int 99]) (rest := []) X hT (km43_X13_readPart l G tag L F hT.2.2.2 p0 70 0 99 x0 x1 x2 soz21268 spz21268 faz21268 m0 g0 (by decide) (by decide) (by decide) mx0 gx0 pf0 mx1 gx1 pf1 mx2 gx2 pf2 (by omega) qsoz21268 (by omega) qspz21268 (by omega) qfaz21268 hkf) m0 g0 rfl rfl qw_552 qw_553 qw_554 qw_5 qw_555 ⟨rfl, by decide +kernel, by decide +kernel, by decide +kernel⟩ ⟨Nat.le_of_ble_eq_true rfl, Nat.le_of_ble_eq_true rfl⟩ hl rfl rfl (Nat.le_of_ble_eq_true rfl) dX13_readHouse_115 ⟨Nat.le_of_ble_eq_true rfl, Nat.le_of_ble_eq_true rfl⟩ (fun z21269 F H locs hT hz21269 => ?_)
        obtain ⟨hz21269, yz21269, ⟨soz21269, spz21269, faz21269, qsoz21269, qspz21269, qfaz21269, rsoz21269, rspz21269, rfaz21269, stz21269, ptz21269, hkf⟩⟩ := hz21269
        have pf0 := (yz21269.1 _ 4 (Or.inr (by decide)) (Or.inr (by decide)) (Or.inr (by decide)) (Or.inr (by decide)) (Or.inr (by decide)) (Or.inr (by decide)) (Or.inr (by decide)) (Or.inr (by decide))).trans pf0
        have pf1 := (yz21269.1 _ 28 (Or.inr (by decide)) (Or.inr (by decide)) (Or.inr (by decide)) (Or.inr (by decide)) (Or.inr (by decide)) (Or.inr (by decide)) (Or.inr (by decide)) (Or.inr (by decide))).trans pf1
        have pf2 := (yz21269.1 _ 29 (Or.inr (by decide)) (Or.inr (by decide)) (Or.inr (by decide)) (Or.inr (by decide)) (Or.inr (by decide)) (Or.inr (by decide)) (Or.inr (by decide)) (Or.inr (by decide))).trans pf2
        have pf6 := (yz21269.1 _ 12 (Or.inr (by decide)) (Or.inr (by decide)) (Or.inr (by decide)) (Or.inr (by decide)) (Or.inl (by rw [gx0]; decide)) (Or.inr (by decide)) (Or.inr (by decide)) (Or.inr (by decide))).trans pf6
        have pf7 := (yz21269.1 _ 7 (Or.inr (by decide)) (Or.inr (by decide)) (Or.inr (by decide)) (Or.inr (by decide)) (Or.inr (by decide)) (Or.inr (by decide)) (Or.inr (by decide)) (Or.inr (by decide))).trans pf7
        have pf8 := (yz21269.1 _ 8 (Or.inl (by rw [gx0]; decide)) (Or.inr (by decide)) (Or.inr (by decide)) (Or.inr (by decide)) (Or.inr (by decide)) (Or.inr (by decide)) (Or.inr (by decide)) (Or.inr (by decide))).trans pf8
        have pf9 := (yz21269.1 _ 9 (Or.inr (by decide)) (Or.inl (by rw [gx0]; decide)) (Or.inr (by decide)) (Or.inr (by decide)) (Or.inr (by decide)) (Or.inr (by decide)) (Or.inr (by decide)) (Or.inr (by decide))).trans pf9
        have pf10 := (yz21269.1 _ 10 (Or.inr (by decide)) (Or.inr (by decide)) (Or.inl (by rw [gx0]; decide)) (Or.inr (by decide)) (Or.inr (by decide)) (Or.inr (by decide)) (Or.inr (by decide)) (Or.inr (by decide))).trans pf10
        have pf11 := (yz21269.1 _ 0 (Or.inr (by decide)) (Or.inr (by decide)) (Or.inr (by decide)) (Or.inr (by decide)) (Or.inr (by decide)) (Or.inr (by decide)) (Or.inr (by decide)) (Or.inr (by decide))).trans pf11
        have hv21199 := (yz21269.1 _ 15 (Or.inr (by decide)) (Or.inr (by decide)) (Or.inr (by decide)) (Or.inr (by decide)) (Or.inr (by decide)) (Or.inr (by decide)) (Or.inr (by decide)) (Or.inl (by rw [gx0]; decide))).trans hv21199
        have vz21201 := (yz21269.2 _ _ ).trans vz21201
        have hv21217 := (yz21269.1 _ 30 (Or.inr (by decide)) (Or.inr (by decide)) (Or.inr (by decide)) (Or.inr (by decide)) (Or.inr (by decide)) (Or.inr (by decide)) (Or.inr (by decide)) (Or.inr (by decide))).trans hv21217
        have hfr : (∀ b j : Nat, (tag b ≠ 44 ∨ j ≠ 8) → (tag b ≠ 44 ∨ j ≠ 12) → (tag b ≠ 46 ∨ j ≠ 8) → (tag b ≠ 46 ∨ j ≠ 9) → (tag b ≠ 46 ∨ j ≠ 10) → (tag b ≠ 46 ∨ j ≠ 11) → (tag b ≠ 46 ∨ j ≠ 12) → (tag b ≠ 46 ∨ j ≠ 13) → (tag b ≠ 46 ∨ j ≠ 14) → (tag b ≠ 46 ∨ j ≠ 15) → fld F b j = fld Fo b j) ∧ (∀ b j : Nat, tag b ≠ 30 → tag b ≠ 31 → tag b ≠ 34 → tag b ≠ 35 → tag b ≠ 36 → tag b ≠ 37 → elm F b j = elm Fo b j) := ⟨fun b j n44_8 n44_12 n46_8 n46_9 n46_10 n46_11 n46_12 n46_13 n46_14 n46_15 => (yz21269.1 b j n46_8 n46_9 n46_10 n46_11 n46_12 n46_13 n46_14 n46_15).trans (hfr.1 b j n44_8 n44_12 n46_8 n46_9 n46_10 n46_11 n46_12 n46_13 n46_14 n46_15), fun b j a30 a31 a34 a35 a36 a37 => (yz21269.2 b j ).trans (hfr.2 b j a30 a31 a34 a35 a36 a37)⟩
        have hrel := msr_of (fun j => yz21269.2 _ j ) (fun j => yz21269.2 _ j ) hrel
        have hstk := STK.tr hstk stz21269
        have hspt := SPT.tr hspt ptz21269
        have k5z21269 : soz21269.toInt = 5 := stz21269 (by omega)
        refine lv_istore (lv' := [(5, .int z21269), (4, .int z21268), (3, .int z21182), (1, .long z21180), (0, .ref p0)]) hx hb dX13_readHouse_118 hl (by decide) rfl (fun ls hl => ?_)
        refine lv_aload_n hx hb dX13_readHouse_120 rfl (lv_at hl 4 rfl) ?_
        refine m_ldcKw X 71 rfl dX13_readHouse_121 ?_
        refine lv_iconst (v := 0) hx hb dX13_readHouse_124 (by decide) ?_
        refine lv_sipush (v := 999) hx hb dX13_readHouse_125 (by decide) ?_
        refine t_cVi (n := 3) (C := RX13) (T := TX13) (N := 37) (As := [.ref (G.2 (100 + 71)), .int 0, .int 999]) (rest := []) X hT (km56_X13_readPart l G tag L F hT.2.2.2 p0 71 0 999 x0 x1 x2 soz21269 spz21269 faz21269 m0 g0 (by decide) (by decide) (by decide) mx0 gx0 pf0 mx1 gx1 pf1 mx2 gx2 pf2 (by omega) qsoz21269 (by omega) qspz21269 (by omega) qfaz21269 hkf) m0 g0 rfl rfl qw_552 qw_553 qw_554 qw_5 qw_555 ⟨rfl, by decide +kernel, by decide +kernel, by decide +kernel⟩ ⟨Nat.le_of_ble_eq_true rfl, Nat.le_of_ble_eq_true rfl⟩ hl rfl rfl (Nat.le_of_ble_eq_true rfl) dX13_readHouse_128 ⟨Nat.le_of_ble_eq_true rfl, Nat.le_of_ble_eq_true rfl⟩ (fun z21270 F H locs hT hz21270 => ?_)
        obtain ⟨hz21270, yz21270, ⟨soz21270, spz21270, faz21270, qsoz21270, qspz21270, qfaz21270, rsoz21270, rspz21270, rfaz21270, stz21270, ptz21270, hkf⟩⟩ := hz21270
        have pf0 := (yz21270.1 _ 4 (Or.inr (by decide)) (Or.inr (by decide)) (Or.inr (by decide)) (Or.inr (by decide)) (Or.inr (by decide)) (Or.inr (by decide)) (Or.inr (by decide)) (Or.inr (by decide))).trans pf0
        have pf1 := (yz21270.1 _ 28 (Or.inr (by decide)) (Or.inr (by decide)) (Or.inr (by decide)) (Or.inr (by decide)) (Or.inr (by decide)) (Or.inr (by decide)) (Or.inr (by decide)) (Or.inr (by decide))).trans pf1
        have pf2 := (yz21270.1 _ 29 (Or.inr (by decide)) (Or.inr (by decide)) (Or.inr (by decide)) (Or.inr (by decide)) (Or.inr (by decide)) (Or.inr (by decide)) (Or.inr (by decide)) (Or.inr (by decide))).trans pf2
        have pf6 := (yz21270.1 _ 12 (Or.inr (by decide)) (Or.inr (by decide)) (Or.inr (by decide)) (Or.inr (by decide)) (Or.inl (by rw [gx0]; decide)) (Or.inr (by decide)) (Or.inr (by decide)) (Or.inr (by decide))).trans pf6
        have pf7 := (yz21270.1 _ 7 (Or.inr (by decide)) (Or.inr (by decide)) (Or.inr (by decide)) (Or.inr (by decide)) (Or.inr (by decide)) (Or.inr (by decide)) (Or.inr (by decide)) (Or.inr (by decide))).trans pf7
        have pf8 := (yz21270.1 _ 8 (Or.inl (by rw [gx0]; decide)) (Or.inr (by decide)) (Or.inr (by decide)) (Or.inr (by decide)) (Or.inr (by decide)) (Or.inr (by decide)) (Or.inr (by decide)) (Or.inr (by decide))).trans pf8
        have pf9 := (yz21270.1 _ 9 (Or.inr (by decide)) (Or.inl (by rw [gx0]; decide)) (Or.inr (by decide)) (Or.inr (by decide)) (Or.inr (by decide)) (Or.inr (by decide)) (Or.inr (by decide)) (Or.inr (by decide))).trans pf9
        have pf10 := (yz21270.1 _ 10 (Or.inr (by decide)) (Or.inr (by decide)) (Or.inl (by rw [gx0]; decide)) (Or.inr (by decide)) (Or.inr (by decide)) (Or.inr (by decide)) (Or.inr (by decide)) (Or.inr (by decide))).trans pf10
        have pf11 := (yz21270.1 _ 0 (Or.inr (by decide)) (Or.inr (by decide)) (Or.inr (by decide)) (Or.inr (by decide)) (Or.inr (by decide)) (Or.inr (by decide)) (Or.inr (by decide)) (Or.inr (by decide))).trans pf11
        have hv21199 := (yz21270.1 _ 15 (Or.inr (by decide)) (Or.inr (by decide)) (Or.inr (by decide)) (Or.inr (by decide)) (Or.inr (by decide)) (Or.inr (by decide)) (Or.inr (by decide)) (Or.inl (by rw [gx0]; decide))).trans hv21199
        have vz21201 := (yz21270.2 _ _ ).trans vz21201
        have hv21217 := (yz21270.1 _ 30 (Or.inr (by decide)) (Or.inr (by decide)) (Or.inr (by decide)) (Or.inr (by decide)) (Or.inr (by decide)) (Or.inr (by decide)) (Or.inr (by decide)) (Or.inr (by decide))).trans hv21217
        have hfr : (∀ b j : Nat, (tag b ≠ 44 ∨ j ≠ 8) → (tag b ≠ 44 ∨ j ≠ 12) → (tag b ≠ 46 ∨ j ≠ 8) → (tag b ≠ 46 ∨ j ≠ 9) → (tag b ≠ 46 ∨ j ≠ 10) → (tag b ≠ 46 ∨ j ≠ 11) → (tag b ≠ 46 ∨ j ≠ 12) → (tag b ≠ 46 ∨ j ≠ 13) → (tag b ≠ 46 ∨ j ≠ 14) → (tag b ≠ 46 ∨ j ≠ 15) → fld F b j = fld Fo b j) ∧ (∀ b j : Nat, tag b ≠ 30 → tag b ≠ 31 → tag b ≠ 34 → tag b ≠ 35 → tag b ≠ 36 → tag b ≠ 37 → elm F b j = elm Fo b j) := ⟨fun b j n44_8 n44_12 n46_8 n46_9 n46_10 n46_11 n46_12 n46_13 n46_14 n46_15 => (yz21270.1 b j n46_8 n46_9 n46_10 n46_11 n46_12 n46_13 n46_14 n46_15).trans (hfr.1 b j n44_8 n44_12 n46_8 n46_9 n46_10 n46_11 n46_12 n46_13 n46_14 n46_15), fun b j a30 a31 a34 a35 a36 a37 => (yz21270.2 b j ).trans (hfr.2 b j a30 a31 a34 a35 a36 a37)⟩
        have hrel := msr_of (fun j => yz21270.2 _ j ) (fun j => yz21270.2 _ j ) hrel
        have hstk := STK.tr hstk stz21270
        have hspt := SPT.tr hspt ptz21270
        have k5z21270 : soz21270.toInt = 5 := stz21270 (by omega)
        refine lv_istore (lv' := [(6, .int z21270), (5, .int z21269), (4, .int z21268), (3, .int z21182), (1, .long z21180), (0, .ref p0)]) hx hb dX13_readHouse_131 hl (by decide) rfl (fun ls hl => ?_)
        refine lv_aload_n hx hb dX13_readHouse_133 rfl (lv_at hl 5 rfl) ?_
        refine t_get (C := RX13) (T := TX13) (N := 37) X hT m0 g0 rfl rfl 9 (by decide) qw_478 inlX13 rfl dX13_readHouse_134 (fun v21271 hv21271 ov21271 => ?_)
        obtain rfl : v21271 = .int soz21270 := hv21271.symm.trans qsoz21270
        refine lv_iconst (v := 5) hx hb dX13_readHouse_137 (by decide) ?_
        refine lv_icmp_ne (tgt := 142) hx hb dX13_readHouse_138 (by decide) (fun c21272 => ?_) (fun c21272 => ?_)
        · have w21273 := cv_ne (rfl : soz21270.toInt = soz21270.toInt) (by decide : (5 : Int32).toInt = 5) c21272
          exfalso
          omega
        · have w21274 := cv_eq (rfl : soz21270.toInt = soz21270.toInt) (by decide : (5 : Int32).toInt = 5) c21272
          exact t_vret hQ X hT ⟨hfr, hrel, ⟨soz21270, spz21270, faz21270, qsoz21270, qspz21270, qfaz21270, (by omega), (by omega), (by omega), hstk, hspt, hkf⟩, ⟨x6, x7, x8, x9, x10, x11, pf6, pf7, pf8, pf9, pf10, pf11, (by omega), (by omega), (by omega), (by omega), (by omega), (by omega), hpl⟩⟩ (Nat.le_of_ble_eq_true rfl) (Nat.le_of_ble_eq_true rfl) dX13_readHouse_141
