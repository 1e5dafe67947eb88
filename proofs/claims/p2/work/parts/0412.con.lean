set_option maxHeartbeats 4000000 in
set_option maxRecDepth 100000 in
theorem km68_X13_readStone (l : Launch) (G : KG) (tag : Nat → Nat) (L : List Nat) (Fo : Nat → va_E) (ho : okT G ttC tag L Fo) (p0 : Nat) (x0 : Nat) (x1 : Nat) (x2 : Nat) (x3 : Int32) (x4 : Int32) (x5 : Int32) (x6 : Int32) (x7 : Int32) (x8 : Int32) (x9 : Int32) (x10 : Int32) (x11 : Int32) (m0 : p0 ∈ L) (g0 : tag p0 = 46) (mx0 : x0 ∈ L) (gx0 : tag x0 = 44) (pf0 : fld Fo p0 4 = .ref x0) (mx1 : x1 ∈ L) (gx1 : tag x1 = 35) (pf1 : fld Fo x0 28 = .ref x1) (mx2 : x2 ∈ L) (gx2 : tag x2 = 36) (pf2 : fld Fo x0 29 = .ref x2) (hx3 : 0 ≤ x3.toInt ∧ x3.toInt ≤ 5) (pf3 : fld Fo p0 9 = .int x3) (hx4 : 0 ≤ x4.toInt ∧ x4.toInt ≤ 1000) (pf4 : fld Fo p0 8 = .int x4) (hx5 : 0 ≤ x5.toInt ∧ x5.toInt ≤ 7) (pf5 : fld Fo p0 13 = .int x5) (hx6 : 0 ≤ x6.toInt ∧ x6.toInt ≤ 32) (pf6 : fld Fo x0 12 = .int x6) (hx7 : 0 ≤ x7.toInt ∧ x7.toInt ≤ 4) (pf7 : fld Fo x0 7 = .int x7) (hx8 : 0 ≤ x8.toInt ∧ x8.toInt ≤ 4) (pf8 : fld Fo x0 8 = .int x8) (hx9 : 0 ≤ x9.toInt ∧ x9.toInt ≤ 6) (pf9 : fld Fo x0 9 = .int x9) (hx10 : 0 ≤ x10.toInt ∧ x10.toInt ≤ 6) (pf10 : fld Fo x0 10 = .int x10) (hx11 : 0 ≤ x11.toInt ∧ x11.toInt ≤ 12) (pf11 : fld Fo x0 0 = .int x11) (hrel : MSR Fo x1 x2) (hkf : KF x3 x5) (hpl : PLr x6 x7 x8 x9 x10 x11) : TMv l yX13_readStone cX13_readStone 9 { frames := 8, cells := 0, slots := 0, locals := 173 } G ttC tag L Fo [.ref p0] (fun F1 => ((∀ b j : Nat, (tag b ≠ 44 ∨ j ≠ 7) → (tag b ≠ 44 ∨ j ≠ 12) → (tag b ≠ 46 ∨ j ≠ 8) → (tag b ≠ 46 ∨ j ≠ 9) → (tag b ≠ 46 ∨ j ≠ 10) → (tag b ≠ 46 ∨ j ≠ 11) → (tag b ≠ 46 ∨ j ≠ 12) → (tag b ≠ 46 ∨ j ≠ 13) → (tag b ≠ 46 ∨ j ≠ 14) → (tag b ≠ 46 ∨ j ≠ 15) → fld F1 b j = fld Fo b j) ∧ (∀ b j : Nat, tag b ≠ 29 → tag b ≠ 34 → tag b ≠ 35 → tag b ≠ 36 → elm F1 b j = elm Fo b j)) ∧ (MSR F1 x1 x2) ∧ (∃ so sp fa : Int32, fld F1 p0 9 = .int so ∧ fld F1 p0 8 = .int sp ∧ fld F1 p0 13 = .int fa ∧ (0 ≤ so.toInt ∧ so.toInt ≤ 5) ∧ (0 ≤ sp.toInt ∧ sp.toInt ≤ 1000) ∧ (0 ≤ fa.toInt ∧ fa.toInt ≤ 7) ∧ STK x3 so ∧ SPT x3 x4 so sp ∧ KF so fa) ∧ (∃ na st ho he wa wi : Int32, fld F1 x0 12 = .int na ∧ fld F1 x0 7 = .int st ∧ fld F1 x0 8 = .int ho ∧ fld F1 x0 9 = .int he ∧ fld F1 x0 10 = .int wa ∧ fld F1 x0 0 = .int wi ∧ (0 ≤ na.toInt ∧ na.toInt ≤ 32) ∧ (0 ≤ st.toInt ∧ st.toInt ≤ 4) ∧ (0 ≤ ho.toInt ∧ ho.toInt ≤ 4) ∧ (0 ≤ he.toInt ∧ he.toInt ≤ 6) ∧ (0 ≤ wa.toInt ∧ wa.toInt ≤ 6) ∧ (0 ≤ wi.toInt ∧ wi.toInt ≤ 12) ∧ PLr na st ho he wa wi)) := by
  refine t_bodyv (y := yX13_readStone) (cd := cX13_readStone) (mL := 9) (rm := { frames := 8, cells := 0, slots := 0, locals := 173 }) (av := [.ref p0]) (by decide) (Nat.le_of_ble_eq_true rfl) ho ?_
  intro p e s m args below meth c ls A Q hQ X hT hl
  have hx := X.1.1
  have hb := X.1.2.1
  have hl : lv_has ls 9 [(0, .ref p0)] := hl
  obtain ⟨F, hFo⟩ : ∃ F : Nat → va_E, F = Fo := ⟨_, rfl⟩
  rw [← hFo] at hT pf0 pf1 pf2 pf3 pf4 pf5 pf6 pf7 pf8 pf9 pf10 pf11 hrel
  have hfr : (∀ b j : Nat, (tag b ≠ 44 ∨ j ≠ 7) → (tag b ≠ 44 ∨ j ≠ 12) → (tag b ≠ 46 ∨ j ≠ 8) → (tag b ≠ 46 ∨ j ≠ 9) → (tag b ≠ 46 ∨ j ≠ 10) → (tag b ≠ 46 ∨ j ≠ 11) → (tag b ≠ 46 ∨ j ≠ 12) → (tag b ≠ 46 ∨ j ≠ 13) → (tag b ≠ 46 ∨ j ≠ 14) → (tag b ≠ 46 ∨ j ≠ 15) → fld F b j = fld Fo b j) ∧ (∀ b j : Nat, tag b ≠ 29 → tag b ≠ 34 → tag b ≠ 35 → tag b ≠ 36 → elm F b j = elm Fo b j) := by
    rw [hFo]
    exact ⟨by intros; rfl, by intros; rfl⟩
  have hstk : STK x3 x3 := STK.rf
  have hspt : SPT x3 x4 x3 x4 := SPT.rf
  have hpu := hpl
  unfold PLr at hpu
  refine lv_aload_n hx hb dX13_readStone_0 rfl (lv_at hl 0 rfl) ?_
  refine lv_aload_n hx hb dX13_readStone_1 rfl (lv_at hl 0 rfl) ?_
  refine t_get (C := RX13) (T := TX13) (N := 37) X hT m0 g0 rfl rfl 4 (by decide) qw_477 inlX13 rfl dX13_readStone_2 (fun v23701 hv23701 ov23701 => ?_)
  obtain rfl : v23701 = .ref x0 := hv23701.symm.trans pf0
  refine t_getN (C := RX12) (T := TX12) (N := 31) X hT mx0 gx0 rfl rfl 7 (by decide) (List.mem_of_getElem? (i := 11) rfl) inlX12 rfl dX13_readStone_5 (fun v23702 hv23702 ov23702 => ?_)
  obtain rfl : v23702 = .int x7 := hv23702.symm.trans pf7
  refine lv_iconst (v := 4) hx hb dX13_readStone_8 (by decide) ?_
  refine t_cVv (n := 2) (C := RX13) (T := TX13) (N := 37) (As := [.int x7, .int 4]) (rest := []) X hT (km15_X13_begins l G tag L F hT.2.2.2 p0 x7 4 x0 x1 x2 x3 x4 x5 x11 m0 g0 mx0 gx0 pf0 mx1 gx1 pf1 mx2 gx2 pf2 (by omega) pf3 (by omega) pf4 (by omega) pf5 (by omega) pf11 hkf) m0 g0 rfl rfl qw_575 qw_576 qw_577 qw_5 qw_578 ⟨rfl, by decide +kernel, by decide +kernel, by decide +kernel⟩ ⟨Nat.le_of_ble_eq_true rfl, Nat.le_of_ble_eq_true rfl⟩ hl rfl rfl (Nat.le_of_ble_eq_true rfl) dX13_readStone_9 ⟨Nat.le_of_ble_eq_true rfl, Nat.le_of_ble_eq_true rfl⟩ (fun F H locs hT hz23703 => ?_)
  obtain ⟨yz23703, ⟨soz23703, spz23703, faz23703, qsoz23703, qspz23703, qfaz23703, rsoz23703, rspz23703, rfaz23703, stz23703, ptz23703, hkf, pxz23703_0⟩⟩ := hz23703
  have pf0 := (yz23703.1 _ 4 (Or.inr (by decide)) (Or.inr (by decide)) (Or.inr (by decide)) (Or.inr (by decide)) (Or.inr (by decide)) (Or.inr (by decide)) (Or.inr (by decide)) (Or.inr (by decide))).trans pf0
  have pf1 := (yz23703.1 _ 28 (Or.inr (by decide)) (Or.inr (by decide)) (Or.inr (by decide)) (Or.inr (by decide)) (Or.inr (by decide)) (Or.inr (by decide)) (Or.inr (by decide)) (Or.inr (by decide))).trans pf1
  have pf2 := (yz23703.1 _ 29 (Or.inr (by decide)) (Or.inr (by decide)) (Or.inr (by decide)) (Or.inr (by decide)) (Or.inr (by decide)) (Or.inr (by decide)) (Or.inr (by decide)) (Or.inr (by decide))).trans pf2
  have pf6 := (yz23703.1 _ 12 (Or.inr (by decide)) (Or.inr (by decide)) (Or.inr (by decide)) (Or.inr (by decide)) (Or.inl (by rw [gx0]; decide)) (Or.inr (by decide)) (Or.inr (by decide)) (Or.inr (by decide))).trans pf6
  have pf7 := (yz23703.1 _ 7 (Or.inr (by decide)) (Or.inr (by decide)) (Or.inr (by decide)) (Or.inr (by decide)) (Or.inr (by decide)) (Or.inr (by decide)) (Or.inr (by decide)) (Or.inr (by decide))).trans pf7
  have pf8 := (yz23703.1 _ 8 (Or.inl (by rw [gx0]; decide)) (Or.inr (by decide)) (Or.inr (by decide)) (Or.inr (by decide)) (Or.inr (by decide)) (Or.inr (by decide)) (Or.inr (by decide)) (Or.inr (by decide))).trans pf8
  have pf9 := (yz23703.1 _ 9 (Or.inr (by decide)) (Or.inl (by rw [gx0]; decide)) (Or.inr (by decide)) (Or.inr (by decide)) (Or.inr (by decide)) (Or.inr (by decide)) (Or.inr (by decide)) (Or.inr (by decide))).trans pf9
  have pf10 := (yz23703.1 _ 10 (Or.inr (by decide)) (Or.inr (by decide)) (Or.inl (by rw [gx0]; decide)) (Or.inr (by decide)) (Or.inr (by decide)) (Or.inr (by decide)) (Or.inr (by decide)) (Or.inr (by decide))).trans pf10
  have pf11 := (yz23703.1 _ 0 (Or.inr (by decide)) (Or.inr (by decide)) (Or.inr (by decide)) (Or.inr (by decide)) (Or.inr (by decide)) (Or.inr (by decide)) (Or.inr (by decide)) (Or.inr (by decide))).trans pf11
  have hfr : (∀ b j : Nat, (tag b ≠ 44 ∨ j ≠ 7) → (tag b ≠ 44 ∨ j ≠ 12) → (tag b ≠ 46 ∨ j ≠ 8) → (tag b ≠ 46 ∨ j ≠ 9) → (tag b ≠ 46 ∨ j ≠ 10) → (tag b ≠ 46 ∨ j ≠ 11) → (tag b ≠ 46 ∨ j ≠ 12) → (tag b ≠ 46 ∨ j ≠ 13) → (tag b ≠ 46 ∨ j ≠ 14) → (tag b ≠ 46 ∨ j ≠ 15) → fld F b j = fld Fo b j) ∧ (∀ b j : Nat, tag b ≠ 29 → tag b ≠ 34 → tag b ≠ 35 → tag b ≠ 36 → elm F b j = elm Fo b j) := ⟨fun b j n44_7 n44_12 n46_8 n46_9 n46_10 n46_11 n46_12 n46_13 n46_14 n46_15 => (yz23703.1 b j n46_8 n46_9 n46_10 n46_11 n46_12 n46_13 n46_14 n46_15).trans (hfr.1 b j n44_7 n44_12 n46_8 n46_9 n46_10 n46_11 n46_12 n46_13 n46_14 n46_15), fun b j a29 a34 a35 a36 => (yz23703.2 b j ).trans (hfr.2 b j a29 a34 a35 a36)⟩
  have hrel := msr_of (fun j => yz23703.2 _ j ) (fun j => yz23703.2 _ j ) hrel
  have hstk := STK.tr hstk stz23703
  have hspt := SPT.tr hspt ptz23703
  have k23704 : (4 : Int32).toInt = 4 := by decide
  refine lv_aload_n hx hb dX13_readStone_12 rfl (lv_at hl 0 rfl) ?_
  refine t_cVl (n := 0) (C := RX13) (T := TX13) (N := 37) (As := []) (rest := []) X hT (km26_X13_readFresh l G tag L F hT.2.2.2 p0 x0 x1 x2 soz23703 spz23703 faz23703 m0 g0 mx0 gx0 pf0 mx1 gx1 pf1 mx2 gx2 pf2 (by omega) qsoz23703 (by omega) qspz23703 (by omega) qfaz23703 hkf) m0 g0 rfl rfl qw_595 qw_596 qw_597 qw_5 qw_598 ⟨rfl, by decide +kernel, by decide +kernel, by decide +kernel⟩ ⟨Nat.le_of_ble_eq_true rfl, Nat.le_of_ble_eq_true rfl⟩ hl rfl rfl (Nat.le_of_ble_eq_true rfl) dX13_readStone_13 ⟨Nat.le_of_ble_eq_true rfl, Nat.le_of_ble_eq_true rfl⟩ (fun z23705 F H locs hT hz23705 => ?_)
  obtain ⟨yz23705, ⟨soz23705, spz23705, faz23705, qsoz23705, qspz23705, qfaz23705, rsoz23705, rspz23705, rfaz23705, stz23705, ptz23705, hkf⟩⟩ := hz23705
  have pf0 := (yz23705.1 _ 4 (Or.inr (by decide)) (Or.inr (by decide)) (Or.inr (by decide)) (Or.inr (by decide)) (Or.inr (by decide)) (Or.inr (by decide)) (Or.inr (by decide)) (Or.inr (by decide))).trans pf0
  have pf1 := (yz23705.1 _ 28 (Or.inr (by decide)) (Or.inr (by decide)) (Or.inr (by decide)) (Or.inr (by decide)) (Or.inr (by decide)) (Or.inr (by decide)) (Or.inr (by decide)) (Or.inr (by decide))).trans pf1
  have pf2 := (yz23705.1 _ 29 (Or.inr (by decide)) (Or.inr (by decide)) (Or.inr (by decide)) (Or.inr (by decide)) (Or.inr (by decide)) (Or.inr (by decide)) (Or.inr (by decide)) (Or.inr (by decide))).trans pf2
  have pf6 := (yz23705.1 _ 12 (Or.inr (by decide)) (Or.inr (by decide)) (Or.inr (by decide)) (Or.inr (by decide)) (Or.inl (by rw [gx0]; decide)) (Or.inr (by decide)) (Or.inr (by decide)) (Or.inr (by decide))).trans pf6
  have pf7 := (yz23705.1 _ 7 (Or.inr (by decide)) (Or.inr (by decide)) (Or.inr (by decide)) (Or.inr (by decide)) (Or.inr (by decide)) (Or.inr (by decide)) (Or.inr (by decide)) (Or.inr (by decide))).trans pf7
  have pf8 := (yz23705.1 _ 8 (Or.inl (by rw [gx0]; decide)) (Or.inr (by decide)) (Or.inr (by decide)) (Or.inr (by decide)) (Or.inr (by decide)) (Or.inr (by decide)) (Or.inr (by decide)) (Or.inr (by decide))).trans pf8
  have pf9 := (yz23705.1 _ 9 (Or.inr (by decide)) (Or.inl (by rw [gx0]; decide)) (Or.inr (by decide)) (Or.inr (by decide)) (Or.inr (by decide)) (Or.inr (by decide)) (Or.inr (by decide)) (Or.inr (by decide))).trans pf9
  have pf10 := (yz23705.1 _ 10 (Or.inr (by decide)) (Or.inr (by decide)) (Or.inl (by rw [gx0]; decide)) (Or.inr (by decide)) (Or.inr (by decide)) (Or.inr (by decide)) (Or.inr (by decide)) (Or.inr (by decide))).trans pf10
  have pf11 := (yz23705.1 _ 0 (Or.inr (by decide)) (Or.inr (by decide)) (Or.inr (by decide)) (Or.inr (by decide)) (Or.inr (by decide)) (Or.inr (by decide)) (Or.inr (by decide)) (Or.inr (by decide))).trans pf11
  have hfr : (∀ b j : Nat, (tag b ≠ 44 ∨ j ≠ 7) → (tag b ≠ 44 ∨ j ≠ 12) → (tag b ≠ 46 ∨ j ≠ 8) → (tag b ≠ 46 ∨ j ≠ 9) → (tag b ≠ 46 ∨ j ≠ 10) → (tag b ≠ 46 ∨ j ≠ 11) → (tag b ≠ 46 ∨ j ≠ 12) → (tag b ≠ 46 ∨ j ≠ 13) → (tag b ≠ 46 ∨ j ≠ 14) → (tag b ≠ 46 ∨ j ≠ 15) → fld F b j = fld Fo b j) ∧ (∀ b j : Nat, tag b ≠ 29 → tag b ≠ 34 → tag b ≠ 35 → tag b ≠ 36 → elm F b j = elm Fo b j) := ⟨fun b j n44_7 n44_12 n46_8 n46_9 n46_10 n46_11 n46_12 n46_13 n46_14 n46_15 => (yz23705.1 b j n46_8 n46_9 n46_10 n46_11 n46_12 n46_13 n46_14 n46_15).trans (hfr.1 b j n44_7 n44_12 n46_8 n46_9 n46_10 n46_11 n46_12 n46_13 n46_14 n46_15), fun b j a29 a34 a35 a36 => (yz23705.2 b j ).trans (hfr.2 b j a29 a34 a35 a36)⟩
  have hrel := msr_of (fun j => yz23705.2 _ j ) (fun j => yz23705.2 _ j ) hrel
  have hstk := STK.tr hstk stz23705
  have hspt := SPT.tr hspt ptz23705
  refine lv_lstore_n (lv' := [(1, .long z23705), (0, .ref p0)]) hx hb dX13_readStone_16 rfl hl (by decide) rfl (fun ls hl => ?_)
  refine lv_aload_n hx hb dX13_readStone_17 rfl (lv_at hl 1 rfl) ?_
  refine m_ldcKw X 61 rfl dX13_readStone_18 ?_
  refine t_cVi (n := 1) (C := RX13) (T := TX13) (N := 37) (As := [.ref (G.2 (100 + 61))]) (rest := []) X hT (km9_X13_isWord l G tag L F hT.2.2.2 p0 61 soz23705 m0 g0 (by decide) (by omega) qsoz23705) m0 g0 rfl rfl qw_535 qw_536 qw_537 qw_5 qw_538 ⟨rfl, by decide +kernel, by decide +kernel, by decide +kernel⟩ ⟨Nat.le_of_ble_eq_true rfl, Nat.le_of_ble_eq_true rfl⟩ hl rfl rfl (Nat.le_of_ble_eq_true rfl) dX13_readStone_21 ⟨Nat.le_of_ble_eq_true rfl, Nat.le_of_ble_eq_true rfl⟩ (fun z23706 F9 H locs hT hz23706 => ?_)
  obtain ⟨fz23706, hz23706, xz23706_0⟩ := hz23706
  rw [fz23706] at hT
  refine lv_if_eq (tgt := 31) hx hb dX13_readStone_24 (by decide) (fun c23707 => ?_) (fun c23707 => ?_)
  · have w23708 := cv_eq (rfl : z23706.toInt = z23706.toInt) (by decide : (0 : Int32).toInt = 0) c23707
    refine lv_aload_n hx hb dX13_readStone_31 rfl (lv_at hl 1 rfl) ?_
    refine m_ldcKw X 62 rfl dX13_readStone_32 ?_
    refine t_cVi (n := 1) (C := RX13) (T := TX13) (N := 37) (As := [.ref (G.2 (100 + 62))]) (rest := []) X hT (km9_X13_isWord l G tag L F hT.2.2.2 p0 62 soz23705 m0 g0 (by decide) (by omega) qsoz23705) m0 g0 rfl rfl qw_535 qw_536 qw_537 qw_5 qw_538 ⟨rfl, by decide +kernel, by decide +kernel, by decide +kernel⟩ ⟨Nat.le_of_ble_eq_true rfl, Nat.le_of_ble_eq_true rfl⟩ hl rfl rfl (Nat.le_of_ble_eq_true rfl) dX13_readStone_35 ⟨Nat.le_of_ble_eq_true rfl, Nat.le_of_ble_eq_true rfl⟩ (fun z23709 F9 H locs hT hz23709 => ?_)
    obtain ⟨fz23709, hz23709, xz23709_0⟩ := hz23709
    rw [fz23709] at hT
    refine lv_if_eq (tgt := 45) hx hb dX13_readStone_38 (by decide) (fun c23710 => ?_) (fun c23710 => ?_)
    · have w23711 := cv_eq (rfl : z23709.toInt = z23709.toInt) (by decide : (0 : Int32).toInt = 0) c23710
      refine lv_aload_n hx hb dX13_readStone_45 rfl (lv_at hl 1 rfl) ?_
      refine m_ldcKw X 63 rfl dX13_readStone_46 ?_
      refine t_cVi (n := 1) (C := RX13) (T := TX13) (N := 37) (As := [.ref (G.2 (100 + 63))]) (rest := []) X hT (km9_X13_isWord l G tag L F hT.2.2.2 p0 63 soz23705 m0 g0 (by decide) (by omega) qsoz23705) m0 g0 rfl rfl qw_535 qw_536 qw_537 qw_5 qw_538 ⟨rfl, by decide +kernel, by decide +kernel, by decide +kernel⟩ ⟨Nat.le_of_ble_eq_true rfl, Nat.le_of_ble_eq_true rfl⟩ hl rfl rfl (Nat.le_of_ble_eq_true rfl) dX13_readStone_49 ⟨Nat.le_of_ble_eq_true rfl, Nat.le_of_ble_eq_true rfl⟩ (fun z23712 F9 H locs hT hz23712 => ?_)
      obtain ⟨fz23712, hz23712, xz23712_0⟩ := hz23712
      rw [fz23712] at hT
      refine lv_if_eq (tgt := 59) hx hb dX13_readStone_52 (by decide) (fun c23713 => ?_) (fun c23713 => ?_)
      · have w23714 := cv_eq (rfl : z23712.toInt = z23712.toInt) (by decide : (0 : Int32).toInt = 0) c23713
        refine lv_iconst (v := (-1)) hx hb dX13_readStone_59 (by decide) ?_
        refine lv_istore_n (lv' := [(3, .int (-1)), (1, .long z23705), (0, .ref p0)]) hx hb dX13_readStone_60 rfl hl (by decide) rfl (fun ls hl => ?_)
        refine lv_iload_n hx hb dX13_readStone_61 rfl (lv_at hl 0 rfl) ?_
        refine lv_iconst (v := (-1)) hx hb dX13_readStone_62 (by decide) ?_
        refine lv_icmp_ne (tgt := 71) hx hb dX13_readStone_63 (by decide) (fun c9 => absurd c9 (by decide)) (fun _ => ?_)
        refine lv_aload_n hx hb dX13_readStone_66 rfl (lv_at hl 2 rfl) ?_
        refine lv_iconst (v := 1) hx hb dX13_readStone_67 (by decide) ?_
        refine t_cVv (n := 1) (C := RX13) (T := TX13) (N := 37) (As := [.int 1]) (rest := []) X hT (km10_X13_flaw l G tag L F hT.2.2.2 p0 1 x0 x1 x2 soz23705 spz23705 faz23705 m0 g0 (by decide) mx0 gx0 pf0 mx1 gx1 pf1 mx2 gx2 pf2 (by omega) qsoz23705 (by omega) qspz23705 (by omega) qfaz23705 hkf) m0 g0 rfl rfl qw_548 qw_549 qw_550 qw_5 qw_551 ⟨rfl, by decide +kernel, by decide +kernel, by decide +kernel⟩ ⟨Nat.le_of_ble_eq_true rfl, Nat.le_of_ble_eq_true rfl⟩ hl rfl rfl (Nat.le_of_ble_eq_true rfl) dX13_readStone_68 ⟨Nat.le_of_ble_eq_true rfl, Nat.le_of_ble_eq_true rfl⟩ (fun F H locs hT hz23715 => ?_)
        obtain ⟨yz23715, ⟨soz23715, spz23715, faz23715, qsoz23715, qspz23715, qfaz23715, rsoz23715, rspz23715, rfaz23715, stz23715, ptz23715, hkf, pxz23715_0⟩⟩ := hz23715
        have pf0 := (yz23715.1 _ 4 (Or.inr (by decide)) (Or.inr (by decide)) (Or.inr (by decide))).trans pf0
        have pf1 := (yz23715.1 _ 28 (Or.inr (by decide)) (Or.inr (by decide)) (Or.inr (by decide))).trans pf1
        have pf2 := (yz23715.1 _ 29 (Or.inr (by decide)) (Or.inr (by decide)) (Or.inr (by decide))).trans pf2
        have pf6 := (yz23715.1 _ 12 (Or.inr (by decide)) (Or.inr (by decide)) (Or.inr (by decide))).trans pf6
        have pf7 := (yz23715.1 _ 7 (Or.inr (by decide)) (Or.inr (by decide)) (Or.inr (by decide))).trans pf7
        have pf8 := (yz23715.1 _ 8 (Or.inr (by decide)) (Or.inr (by decide)) (Or.inr (by decide))).trans pf8
        have pf9 := (yz23715.1 _ 9 (Or.inl (by rw [gx0]; decide)) (Or.inr (by decide)) (Or.inr (by decide))).trans pf9
        have pf10 := (yz23715.1 _ 10 (Or.inr (by decide)) (Or.inr (by decide)) (Or.inr (by decide))).trans pf10
        have pf11 := (yz23715.1 _ 0 (Or.inr (by decide)) (Or.inr (by decide)) (Or.inr (by decide))).trans pf11
        have qspz23705 := (yz23715.1 _ 8 (Or.inr (by decide)) (Or.inr (by decide)) (Or.inr (by decide))).trans qspz23705
        have hfr : (∀ b j : Nat, (tag b ≠ 44 ∨ j ≠ 7) → (tag b ≠ 44 ∨ j ≠ 12) → (tag b ≠ 46 ∨ j ≠ 8) → (tag b ≠ 46 ∨ j ≠ 9) → (tag b ≠ 46 ∨ j ≠ 10) → (tag b ≠ 46 ∨ j ≠ 11) → (tag b ≠ 46 ∨ j ≠ 12) → (tag b ≠ 46 ∨ j ≠ 13) → (tag b ≠ 46 ∨ j ≠ 14) → (tag b ≠ 46 ∨ j ≠ 15) → fld F b j = fld Fo b j) ∧ (∀ b j : Nat, tag b ≠ 29 → tag b ≠ 34 → tag b ≠ 35 → tag b ≠ 36 → elm F b j = elm Fo b j) := ⟨fun b j n44_7 n44_12 n46_8 n46_9 n46_10 n46_11 n46_12 n46_13 n46_14 n46_15 => (yz23715.1 b j n46_9 n46_13 n46_14).trans (hfr.1 b j n44_7 n44_12 n46_8 n46_9 n46_10 n46_11 n46_12 n46_13 n46_14 n46_15), fun b j a29 a34 a35 a36 => (yz23715.2 b j ).trans (hfr.2 b j a29 a34 a35 a36)⟩
        have hrel := msr_of (fun j => yz23715.2 _ j ) (fun j => yz23715.2 _ j ) hrel
        have hstk := STK.tr hstk stz23715
        have hspt := SPT.tr hspt ptz23715
        refine lv_aload_n hx hb dX13_readStone_71 rfl (lv_at hl 2 rfl) ?_
        refine t_cVv (n := 0) (C := RX13) (T := TX13) (N := 37) (As := []) (rest := []) X hT (km14_X13_goesOn l G tag L F hT.2.2.2 p0 x0 x1 x2 soz23715 spz23715 faz23715 m0 g0 mx0 gx0 pf0 mx1 gx1 pf1 mx2 gx2 pf2 (by omega) qsoz23715 (by omega) qspz23715 (by omega) qfaz23715 hkf) m0 g0 rfl rfl qw_508 qw_509 qw_510 qw_5 qw_511 ⟨rfl, by decide +kernel, by decide +kernel, by decide +kernel⟩ ⟨Nat.le_of_ble_eq_true rfl, Nat.le_of_ble_eq_true rfl⟩ hl rfl rfl (Nat.le_of_ble_eq_true rfl) dX13_readStone_72 ⟨Nat.le_of_ble_eq_true rfl, Nat.le_of_ble_eq_true rfl⟩ (fun F H locs hT hz23716 => ?_)
        obtain ⟨yz23716, ⟨soz23716, spz23716, faz23716, qsoz23716, qspz23716, qfaz23716, rsoz23716, rspz23716, rfaz23716, stz23716, ptz23716, hkf⟩⟩ := hz23716
        have pf0 := (yz23716.1 _ 4 (Or.inr (by decide)) (Or.inr (by decide)) (Or.inr (by decide)) (Or.inr (by decide)) (Or.inr (by decide)) (Or.inr (by decide))).trans pf0
        have pf1 := (yz23716.1 _ 28 (Or.inr (by decide)) (Or.inr (by decide)) (Or.inr (by decide)) (Or.inr (by decide)) (Or.inr (by decide)) (Or.inr (by decide))).trans pf1
        have pf2 := (yz23716.1 _ 29 (Or.inr (by decide)) (Or.inr (by decide)) (Or.inr (by decide)) (Or.inr (by decide)) (Or.inr (by decide)) (Or.inr (by decide))).trans pf2
        have pf6 := (yz23716.1 _ 12 (Or.inr (by decide)) (Or.inr (by decide)) (Or.inr (by decide)) (Or.inr (by decide)) (Or.inl (by rw [gx0]; decide)) (Or.inr (by decide))).trans pf6
        have pf7 := (yz23716.1 _ 7 (Or.inr (by decide)) (Or.inr (by decide)) (Or.inr (by decide)) (Or.inr (by decide)) (Or.inr (by decide)) (Or.inr (by decide))).trans pf7
        have pf8 := (yz23716.1 _ 8 (Or.inl (by rw [gx0]; decide)) (Or.inr (by decide)) (Or.inr (by decide)) (Or.inr (by decide)) (Or.inr (by decide)) (Or.inr (by decide))).trans pf8
        have pf9 := (yz23716.1 _ 9 (Or.inr (by decide)) (Or.inl (by rw [gx0]; decide)) (Or.inr (by decide)) (Or.inr (by decide)) (Or.inr (by decide)) (Or.inr (by decide))).trans pf9
        have pf10 := (yz23716.1 _ 10 (Or.inr (by decide)) (Or.inr (by decide)) (Or.inl (by rw [gx0]; decide)) (Or.inr (by decide)) (Or.inr (by decide)) (Or.inr (by decide))).trans pf10
        have pf11 := (yz23716.1 _ 0 (Or.inr (by decide)) (Or.inr (by decide)) (Or.inr (by decide)) (Or.inr (by decide)) (Or.inr (by decide)) (Or.inr (by decide))).trans pf11
        have qfaz23715 := (yz23716.1 _ 13 (Or.inr (by decide)) (Or.inr (by decide)) (Or.inr (by decide)) (Or.inr (by decide)) (Or.inr (by decide)) (Or.inr (by decide))).trans qfaz23715
        have hfr : (∀ b j : Nat, (tag b ≠ 44 ∨ j ≠ 7) → (tag b ≠ 44 ∨ j ≠ 12) → (tag b ≠ 46 ∨ j ≠ 8) → (tag b ≠ 46 ∨ j ≠ 9) → (tag b ≠ 46 ∨ j ≠ 10) → (tag b ≠ 46 ∨ j ≠ 11) → (tag b ≠ 46 ∨ j ≠ 12) → (tag b ≠ 46 ∨ j ≠ 13) → (tag b ≠ 46 ∨ j ≠ 14) → (tag b ≠ 46 ∨ j ≠ 15) → fld F b j = fld Fo b j) ∧ (∀ b j : Nat, tag b ≠ 29 → tag b ≠ 34 → tag b ≠ 35 → tag b ≠ 36 → elm F b j = elm Fo b j) := ⟨fun b j n44_7 n44_12 n46_8 n46_9 n46_10 n46_11 n46_12 n46_13 n46_14 n46_15 => (yz23716.1 b j n46_8 n46_9 n46_10 n46_11 n46_12 n46_15).trans (hfr.1 b j n44_7 n44_12 n46_8 n46_9 n46_10 n46_11 n46_12 n46_13 n46_14 n46_15), fun b j a29 a34 a35 a36 => (yz23716.2 b j ).trans (hfr.2 b j a29 a34 a35 a36)⟩
        have hrel := msr_of (fun j => yz23716.2 _ j ) (fun j => yz23716.2 _ j ) hrel
        have hstk := STK.tr hstk stz23716
        have hspt := SPT.tr hspt ptz23716
        have k5z23716 : soz23716.toInt = 5 := stz23716 (by omega)
        refine lv_aload_n hx hb dX13_readStone_75 rfl (lv_at hl 2 rfl) ?_
        refine m_ldcKw X 64 rfl dX13_readStone_76 ?_
        refine lv_iconst (v := 1) hx hb dX13_readStone_79 (by decide) ?_
        refine lv_bipush (v := 9) hx hb dX13_readStone_80 (by decide) ?_
        refine t_cVi (n := 3) (C := RX13) (T := TX13) (N := 37) (As := [.ref (G.2 (100 + 64)), .int 1, .int 9]) (rest := []) X hT (km62_X13_readPart l G tag L F hT.2.2.2 p0 64 1 9 x0 x1 x2 soz23716 spz23716 faz23716 m0 g0 (by decide) (by decide) (by decide) mx0 gx0 pf0 mx1 gx1 pf1 mx2 gx2 pf2 (by omega) qsoz23716 (by omega) qspz23716 (by omega) qfaz23716 hkf) m0 g0 rfl rfl qw_552 qw_553 qw_554 qw_5 qw_555 ⟨rfl, by decide +kernel, by decide +kernel, by decide +kernel⟩ ⟨Nat.le_of_ble_eq_true rfl, Nat.le_of_ble_eq_true rfl⟩ hl rfl rfl (Nat.le_of_ble_eq_true rfl) dX13_readStone_82 ⟨Nat.le_of_ble_eq_true rfl, Nat.le_of_ble_eq_true rfl⟩ (fun z23717 F H locs hT hz23717 => ?_)
        obtain ⟨hz23717, yz23717, ⟨soz23717, spz23717, faz23717, qsoz23717, qspz23717, qfaz23717, rsoz23717, rspz23717, rfaz23717, stz23717, ptz23717, hkf⟩⟩ := hz23717
        have pf0 := (yz23717.1 _ 4 (Or.inr (by decide)) (Or.inr (by decide)) (Or.inr (by decide)) (Or.inr (by decide)) (Or.inr (by decide)) (Or.inr (by decide)) (Or.inr (by decide)) (Or.inr (by decide))).trans pf0
        have pf1 := (yz23717.1 _ 28 (Or.inr (by decide)) (Or.inr (by decide)) (Or.inr (by decide)) (Or.inr (by decide)) (Or.inr (by decide)) (Or.inr (by decide)) (Or.inr (by decide)) (Or.inr (by decide))).trans pf1
        have pf2 := (yz23717.1 _ 29 (Or.inr (by decide)) (Or.inr (by decide)) (Or.inr (by decide)) (Or.inr (by decide)) (Or.inr (by decide)) (Or.inr (by decide)) (Or.inr (by decide)) (Or.inr (by decide))).trans pf2
        have pf6 := (yz23717.1 _ 12 (Or.inr (by decide)) (Or.inr (by decide)) (Or.inr (by decide)) (Or.inr (by decide)) (Or.inl (by rw [gx0]; decide)) (Or.inr (by decide)) (Or.inr (by decide)) (Or.inr (by decide))).trans pf6
        have pf7 := (yz23717.1 _ 7 (Or.inr (by decide)) (Or.inr (by decide)) (Or.inr (by decide)) (Or.inr (by decide)) (Or.inr (by decide)) (Or.inr (by decide)) (Or.inr (by decide)) (Or.inr (by decide))).trans pf7
        have pf8 := (yz23717.1 _ 8 (Or.inl (by rw [gx0]; decide)) (Or.inr (by decide)) (Or.inr (by decide)) (Or.inr (by decide)) (Or.inr (by decide)) (Or.inr (by decide)) (Or.inr (by decide)) (Or.inr (by decide))).trans pf8
        have pf9 := (yz23717.1 _ 9 (Or.inr (by decide)) (Or.inl (by rw [gx0]; decide)) (Or.inr (by decide)) (Or.inr (by decide)) (Or.inr (by decide)) (Or.inr (by decide)) (Or.inr (by decide)) (Or.inr (by decide))).trans pf9
        have pf10 := (yz23717.1 _ 10 (Or.inr (by decide)) (Or.inr (by decide)) (Or.inl (by rw [gx0]; decide)) (Or.inr (by decide)) (Or.inr (by decide)) (Or.inr (by decide)) (Or.inr (by decide)) (Or.inr (by decide))).trans pf10
        have pf11 := (yz23717.1 _ 0 (Or.inr (by decide)) (Or.inr (by decide)) (Or.inr (by decide)) (Or.inr (by decide)) (Or.inr (by decide)) (Or.inr (by decide)) (Or.inr (by decide)) (Or.inr (by decide))).trans pf11
        have hfr : (∀ b j : Nat, (tag b ≠ 44 ∨ j ≠ 7) → (tag b ≠ 44 ∨ j ≠ 12) → (tag b ≠ 46 ∨ j ≠ 8) → (tag b ≠ 46 ∨ j ≠ 9) → (tag b ≠ 46 ∨ j ≠ 10) → (tag b ≠ 46 ∨ j ≠ 11) → (tag b ≠ 46 ∨ j ≠ 12) → (tag b ≠ 46 ∨ j ≠ 13) → (tag b ≠ 46 ∨ j ≠ 14) → (tag b ≠ 46 ∨ j ≠ 15) → fld F b j = fld Fo b j) ∧ (∀ b j : Nat, tag b ≠ 29 → tag b ≠ 34 → tag b ≠ 35 → tag b ≠ 36 → elm F b j = elm Fo b j) := ⟨fun b j n44_7 n44_12 n46_8 n46_9 n46_10 n46_11 n46_12 n46_13 n46_14 n46_15 => (yz23717.1 b j n46_8 n46_9 n46_10 n46_11 n46_12 n46_13 n46_14 n46_15).trans (hfr.1 b j n44_7 n44_12 n46_8 n46_9 n46_10 n46_11 n46_12 n46_13 n46_14 n46_15), fun b j a29 a34 a35 a36 => (yz23717.2 b j ).trans (hfr.2 b j a29 a34 a35 a36)⟩
        have hrel := msr_of (fun j => yz23717.2 _ j ) (fun j => yz23717.2 _ j ) hrel
        have hstk := STK.tr hstk stz23717
        have hspt := SPT.tr hspt ptz23717
        have k5z23717 : soz23717.toInt = 5 := stz23717 (by omega)
        refine lv_istore (lv' := [(4, .int z23717), (3, .int (-1)), (1, .long z23705), (0, .ref p0)]) hx hb dX13_readStone_85 hl (by decide) rfl (fun ls hl => ?_)
        refine lv_aload_n hx hb dX13_readStone_87 rfl (lv_at hl 3 rfl) ?_
        refine m_ldcKw X 65 rfl dX13_readStone_88 ?_
        refine lv_iconst (v := 0) hx hb dX13_readStone_91 (by decide) ?_
        refine lv_bipush (v := 9) hx hb dX13_readStone_92 (by decide) ?_
        refine t_cVi (n := 3) (C := RX13) (T := TX13) (N := 37) (As := [.ref (G.2 (100 + 65)), .int 0, .int 9]) (rest := []) X hT (km63_X13_readPart l G tag L F hT.2.2.2 p0 65 0 9 x0 x1 x2 soz23717 spz23717 faz23717 m0 g0 (by decide) (by decide) (by decide) mx0 gx0 pf0 mx1 gx1 pf1 mx2 gx2 pf2 (by omega) qsoz23717 (by omega) qspz23717 (by omega) qfaz23717 hkf) m0 g0 rfl rfl qw_552 qw_553 qw_554 qw_5 qw_555 ⟨rfl, by decide +kernel, by decide +kernel, by decide +kernel⟩ ⟨Nat.le_of_ble_eq_true rfl, Nat.le_of_ble_eq_true rfl⟩ hl rfl rfl (Nat.le_of_ble_eq_true rfl) dX13_readStone_94 ⟨Nat.le_of_ble_eq_true rfl, Nat.le_of_ble_eq_true rfl⟩ (fun z23718 F H locs hT hz23718 => ?_)
        obtain ⟨hz23718, yz23718, ⟨soz23718, spz23718, faz23718, qsoz23718, qspz23718, qfaz23718, rsoz23718, rspz23718, rfaz23718, stz23718, ptz23718, hkf⟩⟩ := hz23718
        have pf0 := (yz23718.1 _ 4 (Or.inr (by decide)) (Or.inr (by decide)) (Or.inr (by decide)) (Or.inr (by decide)) (Or.inr (by decide)) (Or.inr (by decide)) (Or.inr (by decide)) (Or.inr (by decide))).trans pf0
        have pf1 := (yz23718.1 _ 28 (Or.inr (by decide)) (Or.inr (by decide)) (Or.inr (by decide)) (Or.inr (by decide)) (Or.inr (by decide)) (Or.inr (by decide)) (Or.inr (by decide)) (Or.inr (by decide))).trans pf1
        have pf2 := (yz23718.1 _ 29 (Or.inr (by decide)) (Or.inr (by decide)) (Or.inr (by decide)) (Or.inr (by decide)) (Or.inr (by decide)) (Or.inr (by decide)) (Or.inr (by decide)) (Or.inr (by decide))).trans pf2
        have pf6 := (yz23718.1 _ 12 (Or.inr (by decide)) (Or.inr (by decide)) (Or.inr (by decide)) (Or.inr (by decide)) (Or.inl (by rw [gx0]; decide)) (Or.inr (by decide)) (Or.inr (by decide)) (Or.inr (by decide))).trans pf6
        have pf7 := (yz23718.1 _ 7 (Or.inr (by decide)) (Or.inr (by decide)) (Or.inr (by decide)) (Or.inr (by decide)) (Or.inr (by decide)) (Or.inr (by decide)) (Or.inr (by decide)) (Or.inr (by decide))).trans pf7
        have pf8 := (yz23718.1 _ 8 (Or.inl (by rw [gx0]; decide)) (Or.inr (by decide)) (Or.inr (by decide)) (Or.inr (by decide)) (Or.inr (by decide)) (Or.inr (by decide)) (Or.inr (by decide)) (Or.inr (by decide))).trans pf8
        have pf9 := (yz23718.1 _ 9 (Or.inr (by decide)) (Or.inl (by rw [gx0]; decide)) (Or.inr (by decide)) (Or.inr (by decide)) (Or.inr (by decide)) (Or.inr (by decide)) (Or.inr (by decide)) (Or.inr (by decide))).trans pf9
        have pf10 := (yz23718.1 _ 10 (Or.inr (by decide)) (Or.inr (by decide)) (Or.inl (by rw [gx0]; decide)) (Or.inr (by decide)) (Or.inr (by decide)) (Or.inr (by decide)) (Or.inr (by decide)) (Or.inr (by decide))).trans pf10
        have pf11 := (yz23718.1 _ 0 (Or.inr (by decide)) (Or.inr (by decide)) (Or.inr (by decide)) (Or.inr (by decide)) (Or.inr (by decide)) (Or.inr (by decide)) (Or.inr (by decide)) (Or.inr (by decide))).trans pf11
        have hfr : (∀ b j : Nat, (tag b ≠ 44 ∨ j ≠ 7) → (tag b ≠ 44 ∨ j ≠ 12) → (tag b ≠ 46 ∨ j ≠ 8) → (tag b ≠ 46 ∨ j ≠ 9) → (tag b ≠ 46 ∨ j ≠ 10) → (tag b ≠ 46 ∨ j ≠ 11) → (tag b ≠ 46 ∨ j ≠ 12) → (tag b ≠ 46 ∨ j ≠ 13) → (tag b ≠ 46 ∨ j ≠ 14) → (tag b ≠ 46 ∨ j ≠ 15) → fld F b j = fld Fo b j) ∧ (∀ b j : Nat, tag b ≠ 29 → tag b ≠ 34 → tag b ≠ 35 → tag b ≠ 36 → elm F b j = elm Fo b j) := ⟨fun b j n44_7 n44_12 n46_8 n46_9 n46_10 n46_11 n46_12 n46_13 n46_14 n46_15 => (yz23718.1 b j n46_8 n46_9 n46_10 n46_11 n46_12 n46_13 n46_14 n46_15).trans (hfr.1 b j n44_7 n44_12 n46_8 n46_9 n46_10 n46_11 n46_12 n46_13 n46_14 n46_15), fun b j a29 a34 a35 a36 => (yz23718.2 b j ).trans (hfr.2 b j a29 a34 a35 a36)⟩
        have hrel := msr_of (fun j => yz23718.2 _ j ) (fun j => yz23718.2 _ j ) hrel
        have hstk := STK.tr hstk stz23718
        have hspt := SPT.tr hspt ptz23718
        have k5z23718 : soz23718.toInt = 5 := stz23718 (by omega)
        refine lv_istore (lv' := [(5, .int z23718), (4, .int z23717), (3, .int (-1)), (1, .long z23705), (0, .ref p0)]) hx hb dX13_readStone_97 hl (by decide) rfl (fun ls hl => ?_)
        refine lv_aload_n hx hb dX13_readStone_99 rfl (lv_at hl 4 rfl) ?_
        refine m_ldcKw X 66 rfl dX13_readStone_100 ?_
        refine lv_iconst (v := 0) hx hb dX13_readStone_103 (by decide) ?_
        refine lv_bipush (v := 9) hx hb dX13_readStone_104 (by decide) ?_
        refine t_cVi (n := 3) (C := RX13) (T := TX13) (N := 37) (As := [.ref (G.2 (100 + 66)), .int 0, .int 9]) (rest := []) X hT (km63_X13_readPart l G tag L F hT.2.2.2 p0 66 0 9 x0 x1 x2 soz23718 spz23718 faz23718 m0 g0 (by decide) (by decide) (by decide) mx0 gx0 pf0 mx1 gx1 pf1 mx2 gx2 pf2 (by omega) qsoz23718 (by omega) qspz23718 (by omega) qfaz23718 hkf) m0 g0 rfl rfl qw_552 qw_553 qw_554 qw_5 qw_555 ⟨rfl, by decide +kernel, by decide +kernel, by decide +kernel⟩ ⟨Nat.le_of_ble_eq_true rfl, Nat.le_of_ble_eq_true rfl⟩ hl rfl rfl (Nat.le_of_ble_eq_true rfl) dX13_readStone_106 ⟨Nat.le_of_ble_eq_true rfl, Nat.le_of_ble_eq_true rfl⟩ (fun z23719 F H locs hT hz23719 => ?_)
        obtain ⟨hz23719, yz23719, ⟨soz23719, spz23719, faz23719, qsoz23719, qspz23719, qfaz23719, rsoz23719, rspz23719, rfaz23719, stz23719, ptz23719, hkf⟩⟩ := hz23719
        have pf0 := (yz23719.1 _ 4 (Or.inr (by decide)) (Or.inr (by decide)) (Or.inr (by decide)) (Or.inr (by decide)) (Or.inr (by decide)) (Or.inr (by decide)) (Or.inr (by decide)) (Or.inr (by decide))).trans pf0
        have pf1 := (yz23719.1 _ 28 (Or.inr (by decide)) (Or.inr (by decide)) (Or.inr (by decide)) (Or.inr (by decide)) (Or.inr (by decide)) (Or.inr (by decide)) (Or.inr (by decide)) (Or.inr (by decide))).trans pf1
        have pf2 := (yz23719.1 _ 29 (Or.inr (by decide)) (Or.inr (by decide)) (Or.inr (by decide)) (Or.inr (by decide)) (Or.inr (by decide)) (Or.inr (by decide)) (Or.inr (by decide)) (Or.inr (by decide))).trans pf2
        have pf6 := (yz23719.1 _ 12 (Or.inr (by decide)) (Or.inr (by decide)) (Or.inr (by decide)) (Or.inr (by decide)) (Or.inl (by rw [gx0]; decide)) (Or.inr (by decide)) (Or.inr (by decide)) (Or.inr (by decide))).trans pf6
        have pf7 := (yz23719.1 _ 7 (Or.inr (by decide)) (Or.inr (by decide)) (Or.inr (by decide)) (Or.inr (by decide)) (Or.inr (by decide)) (Or.inr (by decide)) (Or.inr (by decide)) (Or.inr (by decide))).trans pf7
        have pf8 := (yz23719.1 _ 8 (Or.inl (by rw [gx0]; decide)) (Or.inr (by decide)) (Or.inr (by decide)) (Or.inr (by decide)) (Or.inr (by decide)) (Or.inr (by decide)) (Or.inr (by decide)) (Or.inr (by decide))).trans pf8
        have pf9 := (yz23719.1 _ 9 (Or.inr (by decide)) (Or.inl (by rw [gx0]; decide)) (Or.inr (by decide)) (Or.inr (by decide)) (Or.inr (by decide)) (Or.inr (by decide)) (Or.inr (by decide)) (Or.inr (by decide))).trans pf9
        have pf10 := (yz23719.1 _ 10 (Or.inr (by decide)) (Or.inr (by decide)) (Or.inl (by rw [gx0]; decide)) (Or.inr (by decide)) (Or.inr (by decide)) (Or.inr (by decide)) (Or.inr (by decide)) (Or.inr (by decide))).trans pf10
        have pf11 := (yz23719.1 _ 0 (Or.inr (by decide)) (Or.inr (by decide)) (Or.inr (by decide)) (Or.inr (by decide)) (Or.inr (by decide)) (Or.inr (by decide)) (Or.inr (by decide)) (Or.inr (by decide))).trans pf11
        have hfr : (∀ b j : Nat, (tag b ≠ 44 ∨ j ≠ 7) → (tag b ≠ 44 ∨ j ≠ 12) → (tag b ≠ 46 ∨ j ≠ 8) → (tag b ≠ 46 ∨ j ≠ 9) → (tag b ≠ 46 ∨ j ≠ 10) → (tag b ≠ 46 ∨ j ≠ 11) → (tag b ≠ 46 ∨ j ≠ 12) → (tag b ≠ 46 ∨ j ≠ 13) → (tag b ≠ 46 ∨ j ≠ 14) → (tag b ≠ 46 ∨ j ≠ 15) → fld F b j = fld Fo b j) ∧ (∀ b j : Nat, tag b ≠ 29 → tag b ≠ 34 → tag b ≠ 35 → tag b ≠ 36 → elm F b j = elm Fo b j) := ⟨fun b j n44_7 n44_12 n46_8 n46_9 n46_10 n46_11 n46_12 n46_13 n46_14 n46_15 => (yz23719.1 b j n46_8 n46_9 n46_10 n46_11 n46_12 n46_13 n46_14 n46_15).trans (hfr.1 b j n44_7 n44_12 n46_8 n46_9 n46_10 n46_11 n46_12 n46_13 n46_14 n46_15), fun b j a29 a34 a35 a36 => (yz23719.2 b j ).trans (hfr.2 b j a29 a34 a35 a36)⟩
        have hrel := msr_of (fun j => yz23719.2 _ j ) (fun j => yz23719.2 _ j ) hrel
        have hstk := STK.tr hstk stz23719
        have hspt := SPT.tr hspt ptz23719
        have k5z23719 : soz23719.toInt = 5 := stz23719 (by omega)
        refine lv_istore (lv' := [(6, .int z23719), (5, .int z23718), (4, .int z23717), (3, .int (-1)), (1, .long z23705), (0, .ref p0)]) hx hb dX13_readStone_109 hl (by decide) rfl (fun ls hl => ?_)
        refine lv_aload_n hx hb dX13_readStone_111 rfl (lv_at hl 5 rfl) ?_
        refine m_ldcKw X 67 rfl dX13_readStone_112 ?_
        refine lv_iconst (v := 1) hx hb dX13_readStone_115 (by decide) ?_
        refine lv_bipush (v := 99) hx hb dX13_readStone_116 (by decide) ?_
        refine t_cVi (n := 3) (C := RX13) (T := TX13) (N := 37) (As := [.ref (G.2 (100 + 67)), .int 1, .int 99]) (rest := []) X hT (km66_X13_readPart l G tag L F hT.2.2.2 p0 67 1 99 x0 x1 x2 soz23719 spz23719 faz23719 m0 g0 (by decide) (by decide) (by decide) mx0 gx0 pf0 mx1 gx1 pf1 mx2 gx2 pf2 (by omega) qsoz23719 (by omega) qspz23719 (by omega) qfaz23719 hkf) m0 g0 rfl rfl qw_552 qw_553 qw_554 qw_5 qw_555 ⟨rfl, by decide +kernel, by decide +kernel, by decide +kernel⟩ ⟨Nat.le_of_ble_eq_true rfl, Nat.le_of_ble_eq_true rfl⟩ hl rfl rfl (Nat.le_of_ble_eq_true rfl) dX13_readStone_118 ⟨Nat.le_of_ble_eq_true rfl, Nat.le_of_ble_eq_true rfl⟩ (fun z23720 F H locs hT hz23720 => ?_)
        obtain ⟨hz23720, yz23720, ⟨soz23720, spz23720, faz23720, qsoz23720, qspz23720, qfaz23720, rsoz23720, rspz23720, rfaz23720, stz23720, ptz23720, hkf⟩⟩ := hz23720
        have pf0 := (yz23720.1 _ 4 (Or.inr (by decide)) (Or.inr (by decide)) (Or.inr (by decide)) (Or.inr (by decide)) (Or.inr (by decide)) (Or.inr (by decide)) (Or.inr (by decide)) (Or.inr (by decide))).trans pf0
        have pf1 := (yz23720.1 _ 28 (Or.inr (by decide)) (Or.inr (by decide)) (Or.inr (by decide)) (Or.inr (by decide)) (Or.inr (by decide)) (Or.inr (by decide)) (Or.inr (by decide)) (Or.inr (by decide))).trans pf1
        have pf2 := (yz23720.1 _ 29 (Or.inr (by decide)) (Or.inr (by decide)) (Or.inr (by decide)) (Or.inr (by decide)) (Or.inr (by decide)) (Or.inr (by decide)) (Or.inr (by decide)) (Or.inr (by decide))).trans pf2
        have pf6 := (yz23720.1 _ 12 (Or.inr (by decide)) (Or.inr (by decide)) (Or.inr (by decide)) (Or.inr (by decide)) (Or.inl (by rw [gx0]; decide)) (Or.inr (by decide)) (Or.inr (by decide)) (Or.inr (by decide))).trans pf6
        have pf7 := (yz23720.1 _ 7 (Or.inr (by decide)) (Or.inr (by decide)) (Or.inr (by decide)) (Or.inr (by decide)) (Or.inr (by decide)) (Or.inr (by decide)) (Or.inr (by decide)) (Or.inr (by decide))).trans pf7
        have pf8 := (yz23720.1 _ 8 (Or.inl (by rw [gx0]; decide)) (Or.inr (by decide)) (Or.inr (by decide)) (Or.inr (by decide)) (Or.inr (by decide)) (Or.inr (by decide)) (Or.inr (by decide)) (Or.inr (by decide))).trans pf8
        have pf9 := (yz23720.1 _ 9 (Or.inr (by decide)) (Or.inl (by rw [gx0]; decide)) (Or.inr (by decide)) (Or.inr (by decide)) (Or.inr (by decide)) (Or.inr (by decide)) (Or.inr (by decide)) (Or.inr (by decide))).trans pf9
        have pf10 := (yz23720.1 _ 10 (Or.inr (by decide)) (Or.inr (by decide)) (Or.inl (by rw [gx0]; decide)) (Or.inr (by decide)) (Or.inr (by decide)) (Or.inr (by decide)) (Or.inr (by decide)) (Or.inr (by decide))).trans pf10
        have pf11 := (yz23720.1 _ 0 (Or.inr (by decide)) (Or.inr (by decide)) (Or.inr (by decide)) (Or.inr (by decide)) (Or.inr (by decide)) (Or.inr (by decide)) (Or.inr (by decide)) (Or.inr (by decide))).trans pf11
        have hfr : (∀ b j : Nat, (tag b ≠ 44 ∨ j ≠ 7) → (tag b ≠ 44 ∨ j ≠ 12) → (tag b ≠ 46 ∨ j ≠ 8) → (tag b ≠ 46 ∨ j ≠ 9) → (tag b ≠ 46 ∨ j ≠ 10) → (tag b ≠ 46 ∨ j ≠ 11) → (tag b ≠ 46 ∨ j ≠ 12) → (tag b ≠ 46 ∨ j ≠ 13) → (tag b ≠ 46 ∨ j ≠ 14) → (tag b ≠ 46 ∨ j ≠ 15) → fld F b j = fld Fo b j) ∧ (∀ b j : Nat, tag b ≠ 29 → tag b ≠ 34 → tag b ≠ 35 → tag b ≠ 36 → elm F b j = elm Fo b j) := ⟨fun b j n44_7 n44_12 n46_8 n46_9 n46_10 n46_11 n46_12 n46_13 n46_14 n46_15 => (yz23720.1 b j n46_8 n46_9 n46_10 n46_11 n46_12 n46_13 n46_14 n46_15).trans (hfr.1 b j n44_7 n44_12 n46_8 n46_9 n46_10 n46_11 n46_12 n46_13 n46_14 n46_15), fun b j a29 a34 a35 a36 => (yz23720.2 b j ).trans (hfr.2 b j a29 a34 a35 a36)⟩
        have hrel := msr_of (fun j => yz23720.2 _ j ) (fun j => yz23720.2 _ j ) hrel
        have hstk := STK.tr hstk stz23720
        have hspt := SPT.tr hspt ptz23720
        have k5z23720 : soz23720.toInt = 5 := stz23720 (by omega)
        refine lv_istore (lv' := [(7, .int z23720), (6, .int z23719), (5, .int z23718), (4, .int z23717), (3, .int (-1)), (1, .long z23705), (0, .ref p0)]) hx hb dX13_readStone_121 hl (by decide) rfl (fun ls hl => ?_)
        refine lv_aload_n hx hb dX13_readStone_123 rfl (lv_at hl 6 rfl) ?_
        refine t_get (C := RX13) (T := TX13) (N := 37) X hT m0 g0 rfl rfl 9 (by decide) qw_478 inlX13 rfl dX13_readStone_124 (fun v23721 hv23721 ov23721 => ?_)
        obtain rfl : v23721 = .int soz23720 := hv23721.symm.trans qsoz23720
        refine lv_iconst (v := 5) hx hb dX13_readStone_127 (by decide) ?_
        refine lv_icmp_ne (tgt := 132) hx hb dX13_readStone_128 (by decide) (fun c23722 => ?_) (fun c23722 => ?_)
        · have w23723 := cv_ne (rfl : soz23720.toInt = soz23720.toInt) (by decide : (5 : Int32).toInt = 5) c23722
          exfalso
          omega
        · have w23724 := cv_eq (rfl : soz23720.toInt = soz23720.toInt) (by decide : (5 : Int32).toInt = 5) c23722
          exact t_vret hQ X hT ⟨hfr, hrel, ⟨soz23720, spz23720, faz23720, qsoz23720, qspz23720, qfaz23720, (by omega), (by omega), (by omega), hstk, hspt, hkf⟩, ⟨x6, x7, x8, x9, x10, x11, pf6, pf7, pf8, pf9, pf10, pf11, (by omega), (by omega), (by omega), (by omega), (by omega), (by omega), hpl⟩⟩ (Nat.le_of_ble_eq_true rfl) (Nat.le_of_ble_eq_true rfl) dX13_readStone_131
      · have w23725 := cv_ne (rfl : z23712.toInt = z23712.toInt) (by decide : (0 : Int32).toInt = 0) c23713
        refine lv_iconst (v := 2) hx hb dX13_readStone_55 (by decide) ?_
        refine lv_goto (tgt := 60) hx hb dX13_readStone_56 (by decide) ?_
        refine lv_istore_n (lv' := [(3, .int 2), (1, .long z23705), (0, .ref p0)]) hx hb dX13_readStone_60 rfl hl (by decide) rfl (fun ls hl => ?_)
        refine lv_iload_n hx hb dX13_readStone_61 rfl (lv_at hl 0 rfl) ?_
        refine lv_iconst (v := (-1)) hx hb dX13_readStone_62 (by decide) ?_
        refine lv_icmp_ne (tgt := 71) hx hb dX13_readStone_63 (by decide) (fun _ => ?_) (fun c9 => absurd c9 (by decide))
        refine lv_aload_n hx hb dX13_readStone_71 rfl (lv_at hl 2 rfl) ?_
        refine t_cVv (n := 0) (C := RX13) (T := TX13) (N := 37) (As := []) (rest := []) X hT (km14_X13_goesOn l G tag L F hT.2.2.2 p0 x0 x1 x2 soz23705 spz23705 faz23705 m0 g0 mx0 gx0 pf0 mx1 gx1 pf1 mx2 gx2 pf2 (by omega) qsoz23705 (by omega) qspz23705 (by omega) qfaz23705 hkf) m0 g0 rfl rfl qw_508 qw_509 qw_510 qw_5 qw_511 ⟨rfl, by decide +kernel, by decide +kernel, by decide +kernel⟩ ⟨Nat.le_of_ble_eq_true rfl, Nat.le_of_ble_eq_true rfl⟩ hl rfl rfl (Nat.le_of_ble_eq_true rfl) dX13_readStone_72 ⟨Nat.le_of_ble_eq_true rfl, Nat.le_of_ble_eq_true rfl⟩ (fun F H locs hT hz23726 => ?_)
        obtain ⟨yz23726, ⟨soz23726, spz23726, faz23726, qsoz23726, qspz23726, qfaz23726, rsoz23726, rspz23726, rfaz23726, stz23726, ptz23726, hkf⟩⟩ := hz23726
        have pf0 := (yz23726.1 _ 4 (Or.inr (by decide)) (Or.inr (by decide)) (Or.inr (by decide)) (Or.inr (by decide)) (Or.inr (by decide)) (Or.inr (by decide))).trans pf0
        have pf1 := (yz23726.1 _ 28 (Or.inr (by decide)) (Or.inr (by decide)) (Or.inr (by decide)) (Or.inr (by decide)) (Or.inr (by decide)) (Or.inr (by decide))).trans pf1
        have pf2 := (yz23726.1 _ 29 (Or.inr (by decide)) (Or.inr (by decide)) (Or.inr (by decide)) (Or.inr (by decide)) (Or.inr (by decide)) (Or.inr (by decide))).trans pf2
        have pf6 := (yz23726.1 _ 12 (Or.inr (by decide)) (Or.inr (by decide)) (Or.inr (by decide)) (Or.inr (by decide)) (Or.inl (by rw [gx0]; decide)) (Or.inr (by decide))).trans pf6
        have pf7 := (yz23726.1 _ 7 (Or.inr (by decide)) (Or.inr (by decide)) (Or.inr (by decide)) (Or.inr (by decide)) (Or.inr (by decide)) (Or.inr (by decide))).trans pf7
        have pf8 := (yz23726.1 _ 8 (Or.inl (by rw [gx0]; decide)) (Or.inr (by decide)) (Or.inr (by decide)) (Or.inr (by decide)) (Or.inr (by decide)) (Or.inr (by decide))).trans pf8
        have pf9 := (yz23726.1 _ 9 (Or.inr (by decide)) (Or.inl (by rw [gx0]; decide)) (Or.inr (by decide)) (Or.inr (by decide)) (Or.inr (by decide)) (Or.inr (by decide))).trans pf9
        have pf10 := (yz23726.1 _ 10 (Or.inr (by decide)) (Or.inr (by decide)) (Or.inl (by rw [gx0]; decide)) (Or.inr (by decide)) (Or.inr (by decide)) (Or.inr (by decide))).trans pf10
        have pf11 := (yz23726.1 _ 0 (Or.inr (by decide)) (Or.inr (by decide)) (Or.inr (by decide)) (Or.inr (by decide)) (Or.inr (by decide)) (Or.inr (by decide))).trans pf11
        have qfaz23705 := (yz23726.1 _ 13 (Or.inr (by decide)) (Or.inr (by decide)) (Or.inr (by decide)) (Or.inr (by decide)) (Or.inr (by decide)) (Or.inr (by decide))).trans qfaz23705
        have hfr : (∀ b j : Nat, (tag b ≠ 44 ∨ j ≠ 7) → (tag b ≠ 44 ∨ j ≠ 12) → (tag b ≠ 46 ∨ j ≠ 8) → (tag b ≠ 46 ∨ j ≠ 9) → (tag b ≠ 46 ∨ j ≠ 10) → (tag b ≠ 46 ∨ j ≠ 11) → (tag b ≠ 46 ∨ j ≠ 12) → (tag b ≠ 46 ∨ j ≠ 13) → (tag b ≠ 46 ∨ j ≠ 14) → (tag b ≠ 46 ∨ j ≠ 15) → fld F b j = fld Fo b j) ∧ (∀ b j : Nat, tag b ≠ 29 → tag b ≠ 34 → tag b ≠ 35 → tag b ≠ 36 → elm F b j = elm Fo b j) := ⟨fun b j n44_7 n44_12 n46_8 n46_9 n46_10 n46_11 n46_12 n46_13 n46_14 n46_15 => (yz23726.1 b j n46_8 n46_9 n46_10 n46_11 n46_12 n46_15).trans (hfr.1 b j n44_7 n44_12 n46_8 n46_9 n46_10 n46_11 n46_12 n46_13 n46_14 n46_15), fun b j a29 a34 a35 a36 => (yz23726.2 b j ).trans (hfr.2 b j a29 a34 a35 a36)⟩
        have hrel := msr_of (fun j => yz23726.2 _ j ) (fun j => yz23726.2 _ j ) hrel
        have hstk := STK.tr hstk stz23726
        have hspt := SPT.tr hspt ptz23726
        refine lv_aload_n hx hb dX13_readStone_75 rfl (lv_at hl 2 rfl) ?_
        refine m_ldcKw X 64 rfl dX13_readStone_76 ?_
        refine lv_iconst (v := 1) hx hb dX13_readStone_79 (by decide) ?_
        refine lv_bipush (v := 9) hx hb dX13_readStone_80 (by decide) ?_
        refine t_cVi (n := 3) (C := RX13) (T := TX13) (N := 37) (As := [.ref (G.2 (100 + 64)), .int 1, .int 9]) (rest := []) X hT (km62_X13_readPart l G tag L F hT.2.2.2 p0 64 1 9 x0 x1 x2 soz23726 spz23726 faz23726 m0 g0 (by decide) (by decide) (by decide) mx0 gx0 pf0 mx1 gx1 pf1 mx2 gx2 pf2 (by omega) qsoz23726 (by omega) qspz23726 (by omega) qfaz23726 hkf) m0 g0 rfl rfl qw_552 qw_553 qw_554 qw_5 qw_555 ⟨rfl, by decide +kernel, by decide +kernel, by decide +kernel⟩ ⟨Nat.le_of_ble_eq_true rfl, Nat.le_of_ble_eq_true rfl⟩ hl rfl rfl (Nat.le_of_ble_eq_true rfl) dX13_readStone_82 ⟨Nat.le_of_ble_eq_true rfl, Nat.le_of_ble_eq_true rfl⟩ (fun z23727 F H locs hT hz23727 => ?_)
        obtain ⟨hz23727, yz23727, ⟨soz23727, spz23727, faz23727, qsoz23727, qspz23727, qfaz23727, rsoz23727, rspz23727, rfaz23727, stz23727, ptz23727, hkf⟩⟩ := hz23727
        have pf0 := (yz23727.1 _ 4 (Or.inr (by decide)) (Or.inr (by decide)) (Or.inr (by decide)) (Or.inr (by decide)) (Or.inr (by decide)) (Or.inr (by decide)) (Or.inr (by decide)) (Or.inr (by decide))).trans pf0
        have pf1 := (yz23727.1 _ 28 (Or.inr (by decide)) (Or.inr (by decide)) (Or.inr (by decide)) (Or.inr (by decide)) (Or.inr (by decide)) (Or.inr (by decide)) (Or.inr (by decide)) (Or.inr (by decide))).trans pf1
        have pf2 := (yz23727.1 _ 29 (Or.inr (by decide)) (Or.inr (by decide)) (Or.inr (by decide)) (Or.inr (by decide)) (Or.inr (by decide)) (Or.inr (by decide)) (Or.inr (by decide)) (Or.inr (by decide))).trans pf2
        have pf6 := (yz23727.1 _ 12 (Or.inr (by decide)) (Or.inr (by decide)) (Or.inr (by decide)) (Or.inr (by decide)) (Or.inl (by rw [gx0]; decide)) (Or.inr (by decide)) (Or.inr (by decide)) (Or.inr (by decide))).trans pf6
        have pf7 := (yz23727.1 _ 7 (Or.inr (by decide)) (Or.inr (by decide)) (Or.inr (by decide)) (Or.inr (by decide)) (Or.inr (by decide)) (Or.inr (by decide)) (Or.inr (by decide)) (Or.inr (by decide))).trans pf7
        have pf8 := (yz23727.1 _ 8 (Or.inl (by rw [gx0]; decide)) (Or.inr (by decide)) (Or.inr (by decide)) (Or.inr (by decide)) (Or.inr (by decide)) (Or.inr (by decide)) (Or.inr (by decide)) (Or.inr (by decide))).trans pf8
        have pf9 := (yz23727.1 _ 9 (Or.inr (by decide)) (Or.inl (by rw [gx0]; decide)) (Or.inr (by decide)) (Or.inr (by decide)) (Or.inr (by decide)) (Or.inr (by decide)) (Or.inr (by decide)) (Or.inr (by decide))).trans pf9
        have pf10 := (yz23727.1 _ 10 (Or.inr (by decide)) (Or.inr (by decide)) (Or.inl (by rw [gx0]; decide)) (Or.inr (by decide)) (Or.inr (by decide)) (Or.inr (by decide)) (Or.inr (by decide)) (Or.inr (by decide))).trans pf10
        have pf11 := (yz23727.1 _ 0 (Or.inr (by decide)) (Or.inr (by decide)) (Or.inr (by decide)) (Or.inr (by decide)) (Or.inr (by decide)) (Or.inr (by decide)) (Or.inr (by decide)) (Or.inr (by decide))).trans pf11
        have hfr : (∀ b j : Nat, (tag b ≠ 44 ∨ j ≠ 7) → (tag b ≠ 44 ∨ j ≠ 12) → (tag b ≠ 46 ∨ j ≠ 8) → (tag b ≠ 46 ∨ j ≠ 9) → (tag b ≠ 46 ∨ j ≠ 10) → (tag b ≠ 46 ∨ j ≠ 11) → (tag b ≠ 46 ∨ j ≠ 12) → (tag b ≠ 46 ∨ j ≠ 13) → (tag b ≠ 46 ∨ j ≠ 14) → (tag b ≠ 46 ∨ j ≠ 15) → fld F b j = fld Fo b j) ∧ (∀ b j : Nat, tag b ≠ 29 → tag b ≠ 34 → tag b ≠ 35 → tag b ≠ 36 → elm F b j = elm Fo b j) := ⟨fun b j n44_7 n44_12 n46_8 n46_9 n46_10 n46_11 n46_12 n46_13 n46_14 n46_15 => (yz23727.1 b j n46_8 n46_9 n46_10 n46_11 n46_12 n46_13 n46_14 n46_15).trans (hfr.1 b j n44_7 n44_12 n46_8 n46_9 n46_10 n46_11 n46_12 n46_13 n46_14 n46_15), fun b j a29 a34 a35 a36 => (yz23727.2 b j ).trans (hfr.2 b j a29 a34 a35 a36)⟩
        have hrel := msr_of (fun j => yz23727.2 _ j ) (fun j => yz23727.2 _ j ) hrel
        have hstk := STK.tr hstk stz23727
        have hspt := SPT.tr hspt ptz23727
        refine lv_istore (lv' := [(4, .int z23727), (3, .int 2), (1, .long z23705), (0, .ref p0)]) hx hb dX13_readStone_85 hl (by decide) rfl (fun ls hl => ?_)
        refine lv_aload_n hx hb dX13_readStone_87 rfl (lv_at hl 3 rfl) ?_
        refine m_ldcKw X 65 rfl dX13_readStone_88 ?_
        refine lv_iconst (v := 0) hx hb dX13_readStone_91 (by decide) ?_
        refine lv_bipush (v := 9) hx hb dX13_readStone_92 (by decide) ?_
        refine t_cVi (n := 3) (C := RX13) (T := TX13) (N := 37) (As := [.ref (G.2 (100 + 65)), .int 0, .int 9]) (rest := []) X hT (km63_X13_readPart l G tag L F hT.2.2.2 p0 65 0 9 x0 x1 x2 soz23727 spz23727 faz23727 m0 g0 (by decide) (by decide) (by decide) mx0 gx0 pf0 mx1 gx1 pf1 mx2 gx2 pf2 (by omega) qsoz23727 (by omega) qspz23727 (by omega) qfaz23727 hkf) m0 g0 rfl rfl qw_552 qw_553 qw_554 qw_5 qw_555 ⟨rfl, by decide +kernel, by decide +kernel, by decide +kernel⟩ ⟨Nat.le_of_ble_eq_true rfl, Nat.le_of_ble_eq_true rfl⟩ hl rfl rfl (Nat.le_of_ble_eq_true rfl) dX13_readStone_94 ⟨Nat.le_of_ble_eq_true rfl, Nat.le_of_ble_eq_true rfl⟩ (fun z23728 F H locs hT hz23728 => ?_)
        obtain ⟨hz23728, yz23728, ⟨soz23728, spz23728, faz23728, qsoz23728, qspz23728, qfaz23728, rsoz23728, rspz23728, rfaz23728, stz23728, ptz23728, hkf⟩⟩ := hz23728
        have pf0 := (yz23728.1 _ 4 (Or.inr (by decide)) (Or.inr (by decide)) (Or.inr (by decide)) (Or.inr (by decide)) (Or.inr (by decide)) (Or.inr (by decide)) (Or.inr (by decide)) (Or.inr (by decide))).trans pf0
        have pf1 := (yz23728.1 _ 28 (Or.inr (by decide)) (Or.inr (by decide)) (Or.inr (by decide)) (Or.inr (by decide)) (Or.inr (by decide)) (Or.inr (by decide)) (Or.inr (by decide)) (Or.inr (by decide))).trans pf1
        have pf2 := (yz23728.1 _ 29 (Or.inr (by decide)) (Or.inr (by decide)) (Or.inr (by decide)) (Or.inr (by decide)) (Or.inr (by decide)) (Or.inr (by decide)) (Or.inr (by decide)) (Or.inr (by decide))).trans pf2
        have pf6 := (yz23728.1 _ 12 (Or.inr (by decide)) (Or.inr (by decide)) (Or.inr (by decide)) (Or.inr (by decide)) (Or.inl (by rw [gx0]; decide)) (Or.inr (by decide)) (Or.inr (by decide)) (Or.inr (by decide))).trans pf6
        have pf7 := (yz23728.1 _ 7 (Or.inr (by decide)) (Or.inr (by decide)) (Or.inr (by decide)) (Or.inr (by decide)) (Or.inr (by decide)) (Or.inr (by decide)) (Or.inr (by decide)) (Or.inr (by decide))).trans pf7
        have pf8 := (yz23728.1 _ 8 (Or.inl (by rw [gx0]; decide)) (Or.inr (by decide)) (Or.inr (by decide)) (Or.inr (by decide)) (Or.inr (by decide)) (Or.inr (by decide)) (Or.inr (by decide)) (Or.inr (by decide))).trans pf8
        have pf9 := (yz23728.1 _ 9 (Or.inr (by decide)) (Or.inl (by rw [gx0]; decide)) (Or.inr (by decide)) (Or.inr (by decide)) (Or.inr (by decide)) (Or.inr (by decide)) (Or.inr (by decide)) (Or.inr (by decide))).trans pf9
        have pf10 := (yz23728.1 _ 10 (Or.inr (by decide)) (Or.inr (by decide)) (Or.inl (by rw [gx0]; decide)) (Or.inr (by decide)) (Or.inr (by decide)) (Or.inr (by decide)) (Or.inr (by decide)) (Or.inr (by decide))).trans pf10
        have pf11 := (yz23728.1 _ 0 (Or.inr (by decide)) (Or.inr (by decide)) (Or.inr (by decide)) (Or.inr (by decide)) (Or.inr (by decide)) (Or.inr (by decide)) (Or.inr (by decide)) (Or.inr (by decide))).trans pf11
        have hfr : (∀ b j : Nat, (tag b ≠ 44 ∨ j ≠ 7) → (tag b ≠ 44 ∨ j ≠ 12) → (tag b ≠ 46 ∨ j ≠ 8) → (tag b ≠ 46 ∨ j ≠ 9) → (tag b ≠ 46 ∨ j ≠ 10) → (tag b ≠ 46 ∨ j ≠ 11) → (tag b ≠ 46 ∨ j ≠ 12) → (tag b ≠ 46 ∨ j ≠ 13) → (tag b ≠ 46 ∨ j ≠ 14) → (tag b ≠ 46 ∨ j ≠ 15) → fld F b j = fld Fo b j) ∧ (∀ b j : Nat, tag b ≠ 29 → tag b ≠ 34 → tag b ≠ 35 → tag b ≠ 36 → elm F b j = elm Fo b j) := ⟨fun b j n44_7 n44_12 n46_8 n46_9 n46_10 n46_11 n46_12 n46_13 n46_14 n46_15 => (yz23728.1 b j n46_8 n46_9 n46_10 n46_11 n46_12 n46_13 n46_14 n46_15).trans (hfr.1 b j n44_7 n44_12 n46_8 n46_9 n46_10 n46_11 n46_12 n46_13 n46_14 n46_15), fun b j a29 a34 a35 a36 => (yz23728.2 b j ).trans (hfr.2 b j a29 a34 a35 a36)⟩
        have hrel := msr_of (fun j => yz23728.2 _ j ) (fun j => yz23728.2 _ j ) hrel
        have hstk := STK.tr hstk stz23728
        have hspt := SPT.tr hspt ptz23728
        refine lv_istore (lv' := [(5, .int z23728), (4, .int z23727), (3, .int 2), (1, .long z23705), (0, .ref p0)]) hx hb dX13_readStone_97 hl (by decide) rfl (fun ls hl => ?_)
        refine lv_aload_n hx hb dX13_readStone_99 rfl (lv_at hl 4 rfl) ?_
        refine m_ldcKw X 66 rfl dX13_readStone_100 ?_
        refine lv_iconst (v := 0) hx hb dX13_readStone_103 (by decide) ?_
        refine lv_bipush (v := 9) hx hb dX13_readStone_104 (by decide) ?_
        refine t_cVi (n := 3) (C := RX13) (T := TX13) (N := 37) (As := [.ref (G.2 (100 + 66)), .int 0, .int 9]) (rest := []) X hT (km63_X13_readPart l G tag L F hT.2.2.2 p0 66 0 9 x0 x1 x2 soz23728 spz23728 faz23728 m0 g0 (by decide) (by decide) (by decide) mx0 gx0 pf0 mx1 gx1 pf1 mx2 gx2 pf2 (by omega) qsoz23728 (by omega) qspz23728 (by omega) qfaz23728 hkf) m0 g0 rfl rfl qw_552 qw_553 qw_554 qw_5 qw_555 ⟨rfl, by decide +kernel, by decide +kernel, by decide +kernel⟩ ⟨Nat.le_of_ble_eq_true rfl, Nat.le_of_ble_eq_true rfl⟩ hl rfl rfl (Nat.le_of_ble_eq_true rfl) dX13_readStone_106 ⟨Nat.le_of_ble_eq_true rfl, Nat.le_of_ble_eq_true rfl⟩ (fun z23729 F H locs hT hz23729 => ?_)
        obtain ⟨hz23729, yz23729, ⟨soz23729, spz23729, faz23729, qsoz23729, qspz23729, qfaz23729, rsoz23729, rspz23729, rfaz23729, stz23729, ptz23729, hkf⟩⟩ := hz23729
        have pf0 := (yz23729.1 _ 4 (Or.inr (by decide)) (Or.inr (by decide)) (Or.inr (by decide)) (Or.inr (by decide)) (Or.inr (by decide)) (Or.inr (by decide)) (Or.inr (by decide)) (Or.inr (by decide))).trans pf0
        have pf1 := (yz23729.1 _ 28 (Or.inr (by decide)) (Or.inr (by decide)) (Or.inr (by decide)) (Or.inr (by decide)) (Or.inr (by decide)) (Or.inr (by decide)) (Or.inr (by decide)) (Or.inr (by decide))).trans pf1
        have pf2 := (yz23729.1 _ 29 (Or.inr (by decide)) (Or.inr (by decide)) (Or.inr (by decide)) (Or.inr (by decide)) (Or.inr (by decide)) (Or.inr (by decide)) (Or.inr (by decide)) (Or.inr (by decide))).trans pf2
        have pf6 := (yz23729.1 _ 12 (Or.inr (by decide)) (Or.inr (by decide)) (Or.inr (by decide)) (Or.inr (by decide)) (Or.inl (by rw [gx0]; decide)) (Or.inr (by decide)) (Or.inr (by decide)) (Or.inr (by decide))).trans pf6
        have pf7 := (yz23729.1 _ 7 (Or.inr (by decide)) (Or.inr (by decide)) (Or.inr (by decide)) (Or.inr (by decide)) (Or.inr (by decide)) (Or.inr (by decide)) (Or.inr (by decide)) (Or.inr (by decide))).trans pf7
        have pf8 := (yz23729.1 _ 8 (Or.inl (by rw [gx0]; decide)) (Or.inr (by decide)) (Or.inr (by decide)) (Or.inr (by decide)) (Or.inr (by decide)) (Or.inr (by decide)) (Or.inr (by decide)) (Or.inr (by decide))).trans pf8
        have pf9 := (yz23729.1 _ 9 (Or.inr (by decide)) (Or.inl (by rw [gx0]; decide)) (Or.inr (by decide)) (Or.inr (by decide)) (Or.inr (by decide)) (Or.inr (by decide)) (Or.inr (by decide)) (Or.inr (by decide))).trans pf9
        have pf10 := (yz23729.1 _ 10 (Or.inr (by decide)) (Or.inr (by decide)) (Or.inl (by rw [gx0]; decide)) (Or.inr (by decide)) (Or.inr (by decide)) (Or.inr (by decide)) (Or.inr (by decide)) (Or.inr (by decide))).trans pf10
        have pf11 := (yz23729.1 _ 0 (Or.inr (by decide)) (Or.inr (by decide)) (Or.inr (by decide)) (Or.inr (by decide)) (Or.inr (by decide)) (Or.inr (by decide)) (Or.inr (by decide)) (Or.inr (by decide))).trans pf11
        have hfr : (∀ b j : Nat, (tag b ≠ 44 ∨ j ≠ 7) → (tag b ≠ 44 ∨ j ≠ 12) → (tag b ≠ 46 ∨ j ≠ 8) → (tag b ≠ 46 ∨ j ≠ 9) → (tag b ≠ 46 ∨ j ≠ 10) → (tag b ≠ 46 ∨ j ≠ 11) → (tag b ≠ 46 ∨ j ≠ 12) → (tag b ≠ 46 ∨ j ≠ 13) → (tag b ≠ 46 ∨ j ≠ 14) → (tag b ≠ 46 ∨ j ≠ 15) → fld F b j = fld Fo b j) ∧ (∀ b j : Nat, tag b ≠ 29 → tag b ≠ 34 → tag b ≠ 35 → tag b ≠ 36 → elm F b j = elm Fo b j) := ⟨fun b j n44_7 n44_12 n46_8 n46_9 n46_10 n46_11 n46_12 n46_13 n46_14 n46_15 => (yz23729.1 b j n46_8 n46_9 n46_10 n46_11 n46_12 n46_13 n46_14 n46_15).trans (hfr.1 b j n44_7 n44_12 n46_8 n46_9 n46_10 n46_11 n46_12 n46_13 n46_14 n46_15), fun b j a29 a34 a35 a36 => (yz23729.2 b j ).trans (hfr.2 b j a29 a34 a35 a36)⟩
        have hrel := msr_of (fun j => yz23729.2 _ j ) (fun j => yz23729.2 _ j ) hrel
        have hstk := STK.tr hstk stz23729
        have hspt := SPT.tr hspt ptz23729
        refine lv_istore (lv' := [(6, .int z23729), (5, .int z23728), (4, .int z23727), (3, .int 2), (1, .long z23705), (0, .ref p0)]) hx hb dX13_readStone_109 hl (by decide) rfl (fun ls hl => ?_)
        refine lv_aload_n hx hb dX13_readStone_111 rfl (lv_at hl 5 rfl) ?_
        refine m_ldcKw X 67 rfl dX13_readStone_112 ?_
        refine lv_iconst (v := 1) hx hb dX13_readStone_115 (by decide) ?_
        refine lv_bipush (v := 99) hx hb dX13_readStone_116 (by decide) ?_
        refine t_cVi (n := 3) (C := RX13) (T := TX13) (N := 37) (As := [.ref (G.2 (100 + 67)), .int 1, .int 99]) (rest := []) X hT (km66_X13_readPart l G tag L F hT.2.2.2 p0 67 1 99 x0 x1 x2 soz23729 spz23729 faz23729 m0 g0 (by decide) (by decide) (by decide) mx0 gx0 pf0 mx1 gx1 pf1 mx2 gx2 pf2 (by omega) qsoz23729 (by omega) qspz23729 (by omega) qfaz23729 hkf) m0 g0 rfl rfl qw_552 qw_553 qw_554 qw_5 qw_555 ⟨rfl, by decide +kernel, by decide +kernel, by decide +kernel⟩ ⟨Nat.le_of_ble_eq_true rfl, Nat.le_of_ble_eq_true rfl⟩ hl rfl rfl (Nat.le_of_ble_eq_true rfl) dX13_readStone_118 ⟨Nat.le_of_ble_eq_true rfl, Nat.le_of_ble_eq_true rfl⟩ (fun z23730 F H locs hT hz23730 => ?_)
        obtain ⟨hz23730, yz23730, ⟨soz23730, spz23730, faz23730, qsoz23730, qspz23730, qfaz23730, rsoz23730, rspz23730, rfaz23730, stz23730, ptz23730, hkf⟩⟩ := hz23730
        have pf0 := (yz23730.1 _ 4 (Or.inr (by decide)) (Or.inr (by decide)) (Or.inr (by decide)) (Or.inr (by decide)) (Or.inr (by decide)) (Or.inr (by decide)) (Or.inr (by decide)) (Or.inr (by decide))).trans pf0
        have pf1 := (yz23730.1 _ 28 (Or.inr (by decide)) (Or.inr (by decide)) (Or.inr (by decide)) (Or.inr (by decide)) (Or.inr (by decide)) (Or.inr (by decide)) (Or.inr (by decide)) (Or.inr (by decide))).trans pf1
        have pf2 := (yz23730.1 _ 29 (Or.inr (by decide)) (Or.inr (by decide)) (Or.inr (by decide)) (Or.inr (by decide)) (Or.inr (by decide)) (Or.inr (by decide)) (Or.inr (by decide)) (Or.inr (by decide))).trans pf2
        have pf6 := (yz23730.1 _ 12 (Or.inr (by decide)) (Or.inr (by decide)) (Or.inr (by decide)) (Or.inr (by decide)) (Or.inl (by rw [gx0]; decide)) (Or.inr (by decide)) (Or.inr (by decide)) (Or.inr (by decide))).trans pf6
        have pf7 := (yz23730.1 _ 7 (Or.inr (by decide)) (Or.inr (by decide)) (Or.inr (by decide)) (Or.inr (by decide)) (Or.inr (by decide)) (Or.inr (by decide)) (Or.inr (by decide)) (Or.inr (by decide))).trans pf7
        have pf8 := (yz23730.1 _ 8 (Or.inl (by rw [gx0]; decide)) (Or.inr (by decide)) (Or.inr (by decide)) (Or.inr (by decide)) (Or.inr (by decide)) (Or.inr (by decide)) (Or.inr (by decide)) (Or.inr (by decide))).trans pf8
        have pf9 := (yz23730.1 _ 9 (Or.inr (by decide)) (Or.inl (by rw [gx0]; decide)) (Or.inr (by decide)) (Or.inr (by decide)) (Or.inr (by decide)) (Or.inr (by decide)) (Or.inr (by decide)) (Or.inr (by decide))).trans pf9
        have pf10 := (yz23730.1 _ 10 (Or.inr (by decide)) (Or.inr (by decide)) (Or.inl (by rw [gx0]; decide)) (Or.inr (by decide)) (Or.inr (by decide)) (Or.inr (by decide)) (Or.inr (by decide)) (Or.inr (by decide))).trans pf10
        have pf11 := (yz23730.1 _ 0 (Or.inr (by decide)) (Or.inr (by decide)) (Or.inr (by decide)) (Or.inr (by decide)) (Or.inr (by decide)) (Or.inr (by decide)) (Or.inr (by decide)) (Or.inr (by decide))).trans pf11
        have hfr : (∀ b j : Nat, (tag b ≠ 44 ∨ j ≠ 7) → (tag b ≠ 44 ∨ j ≠ 12) → (tag b ≠ 46 ∨ j ≠ 8) → (tag b ≠ 46 ∨ j ≠ 9) → (tag b ≠ 46 ∨ j ≠ 10) → (tag b ≠ 46 ∨ j ≠ 11) → (tag b ≠ 46 ∨ j ≠ 12) → (tag b ≠ 46 ∨ j ≠ 13) → (tag b ≠ 46 ∨ j ≠ 14) → (tag b ≠ 46 ∨ j ≠ 15) → fld F b j = fld Fo b j) ∧ (∀ b j : Nat, tag b ≠ 29 → tag b ≠ 34 → tag b ≠ 35 → tag b ≠ 36 → elm F b j = elm Fo b j) := ⟨fun b j n44_7 n44_12 n46_8 n46_9 n46_10 n46_11 n46_12 n46_13 n46_14 n46_15 => (yz23730.1 b j n46_8 n46_9 n46_10 n46_11 n46_12 n46_13 n46_14 n46_15).trans (hfr.1 b j n44_7 n44_12 n46_8 n46_9 n46_10 n46_11 n46_12 n46_13 n46_14 n46_15), fun b j a29 a34 a35 a36 => (yz23730.2 b j ).trans (hfr.2 b j a29 a34 a35 a36)⟩
        have hrel := msr_of (fun j => yz23730.2 _ j ) (fun j => yz23730.2 _ j ) hrel
        have hstk := STK.tr hstk stz23730
        have hspt := SPT.tr hspt ptz23730
        refine lv_istore (lv' := [(7, .int z23730), (6, .int z23729), (5, .int z23728), (4, .int z23727), (3, .int 2), (1, .long z23705), (0, .ref p0)]) hx hb dX13_readStone_121 hl (by decide) rfl (fun ls hl => ?_)
        refine lv_aload_n hx hb dX13_readStone_123 rfl (lv_at hl 6 rfl) ?_
        refine t_get (C := RX13) (T := TX13) (N := 37) X hT m0 g0 rfl rfl 9 (by decide) qw_478 inlX13 rfl dX13_readStone_124 (fun v23731 hv23731 ov23731 => ?_)
        obtain rfl : v23731 = .int soz23730 := hv23731.symm.trans qsoz23730
        refine lv_iconst (v := 5) hx hb dX13_readStone_127 (by decide) ?_
        refine lv_icmp_ne (tgt := 132) hx hb dX13_readStone_128 (by decide) (fun c23732 => ?_) (fun c23732 => ?_)
        · have w23733 := cv_ne (rfl : soz23730.toInt = soz23730.toInt) (by decide : (5 : Int32).toInt = 5) c23732
          have w23734 := (fun h9 => (fun h9 => (fun h9 => (fun h9 => (fun h9 => (fun h9 => pxz23703_0 (fun e9 => h9 (stz23705 e9))) (fun e9 => h9 (stz23726 e9))) (fun e9 => h9 (stz23727 e9))) (fun e9 => h9 (stz23728 e9))) (fun e9 => h9 (stz23729 e9))) (fun e9 => h9 (stz23730 e9))) (by omega)
          have w23735 := (fun h9 => (fun h9 => (fun h9 => (fun h9 => (fun h9 => (fun h9 => pxz23703_0 (fun e9 => h9 (stz23705 e9))) (fun e9 => h9 (stz23726 e9))) (fun e9 => h9 (stz23727 e9))) (fun e9 => h9 (stz23728 e9))) (fun e9 => h9 (stz23729 e9))) (fun e9 => h9 (stz23730 e9))) (by omega)
          refine lv_aload_n hx hb dX13_readStone_132 rfl (lv_at hl 6 rfl) ?_
          refine t_get (C := RX13) (T := TX13) (N := 37) X hT m0 g0 rfl rfl 4 (by decide) qw_477 inlX13 rfl dX13_readStone_133 (fun v23736 hv23736 ov23736 => ?_)
          obtain rfl : v23736 = .ref x0 := hv23736.symm.trans pf0
          refine t_getN (C := RX12) (T := TX12) (N := 31) X hT mx0 gx0 rfl rfl 7 (by decide) (List.mem_of_getElem? (i := 11) rfl) inlX12 rfl dX13_readStone_136 (fun v23737 hv23737 ov23737 => ?_)
          obtain rfl : v23737 = .int x7 := hv23737.symm.trans pf7
          refine lv_istore (lv' := [(8, .int x7), (7, .int z23730), (6, .int z23729), (5, .int z23728), (4, .int z23727), (3, .int 2), (1, .long z23705), (0, .ref p0)]) hx hb dX13_readStone_139 hl (by decide) rfl (fun ls hl => ?_)
          refine lv_aload_n hx hb dX13_readStone_141 rfl (lv_at hl 7 rfl) ?_
          refine lv_lload_n hx hb dX13_readStone_142 rfl (lv_at hl 6 rfl) ?_
          refine lv_iconst (v := 0) hx hb dX13_readStone_143 (by decide) ?_
          refine lv_iload hx hb dX13_readStone_144 (lv_at hl 0 rfl) ?_
          have w23738 : 0 ≤ x6.toInt ∧ x6.toInt ≤ 20 := by omega
          refine t_cVv (n := 3) (C := RX13) (T := TX13) (N := 37) (As := [.long z23705, .int 0, .int x7]) (rest := []) X hT (km67_X13_names l G tag L F hT.2.2.2 p0 z23705 0 x7 x0 x1 x2 x6 m0 g0 (by decide) (by omega) mx0 gx0 pf0 mx1 gx1 pf1 mx2 gx2 pf2 (by omega) pf6 hrel) m0 g0 rfl rfl qw_608 qw_609 qw_610 qw_5 qw_611 ⟨rfl, by decide +kernel, by decide +kernel, by decide +kernel⟩ ⟨Nat.le_of_ble_eq_true rfl, Nat.le_of_ble_eq_true rfl⟩ hl rfl rfl (Nat.le_of_ble_eq_true rfl) dX13_readStone_146 ⟨Nat.le_of_ble_eq_true rfl, Nat.le_of_ble_eq_true rfl⟩ (fun F H locs hT hz23739 => ?_)
          obtain ⟨yz23739, hrel, xz23739_0⟩ := hz23739
          have pf0 := (yz23739.1 _ 4 (Or.inr (by decide))).trans pf0
          have pf1 := (yz23739.1 _ 28 (Or.inr (by decide))).trans pf1
          have pf2 := (yz23739.1 _ 29 (Or.inr (by decide))).trans pf2
          have pf7 := (yz23739.1 _ 7 (Or.inr (by decide))).trans pf7
          have pf8 := (yz23739.1 _ 8 (Or.inr (by decide))).trans pf8
          have pf9 := (yz23739.1 _ 9 (Or.inr (by decide))).trans pf9
          have pf10 := (yz23739.1 _ 10 (Or.inr (by decide))).trans pf10
          have pf11 := (yz23739.1 _ 0 (Or.inr (by decide))).trans pf11
          have qsoz23730 := (yz23739.1 _ 9 (Or.inr (by decide))).trans qsoz23730
          have qspz23730 := (yz23739.1 _ 8 (Or.inr (by decide))).trans qspz23730
          have qfaz23730 := (yz23739.1 _ 13 (Or.inr (by decide))).trans qfaz23730
          have hfr : (∀ b j : Nat, (tag b ≠ 44 ∨ j ≠ 7) → (tag b ≠ 44 ∨ j ≠ 12) → (tag b ≠ 46 ∨ j ≠ 8) → (tag b ≠ 46 ∨ j ≠ 9) → (tag b ≠ 46 ∨ j ≠ 10) → (tag b ≠ 46 ∨ j ≠ 11) → (tag b ≠ 46 ∨ j ≠ 12) → (tag b ≠ 46 ∨ j ≠ 13) → (tag b ≠ 46 ∨ j ≠ 14) → (tag b ≠ 46 ∨ j ≠ 15) → fld F b j = fld Fo b j) ∧ (∀ b j : Nat, tag b ≠ 29 → tag b ≠ 34 → tag b ≠ 35 → tag b ≠ 36 → elm F b j = elm Fo b j) := ⟨fun b j n44_7 n44_12 n46_8 n46_9 n46_10 n46_11 n46_12 n46_13 n46_14 n46_15 => (yz23739.1 b j n44_12).trans (hfr.1 b j n44_7 n44_12 n46_8 n46_9 n46_10 n46_11 n46_12 n46_13 n46_14 n46_15), fun b j a29 a34 a35 a36 => (yz23739.2 b j a34 a35 a36).trans (hfr.2 b j a29 a34 a35 a36)⟩
          obtain ⟨z23740, qz23740, hz23740⟩ := xz23739_0
          have rz23740 : 0 ≤ z23740.toInt ∧ z23740.toInt ≤ 32 := by omega
          refine lv_aload_n hx hb dX13_readStone_149 rfl (lv_at hl 7 rfl) ?_
          refine t_get (C := RX13) (T := TX13) (N := 37) X hT m0 g0 rfl rfl 4 (by decide) qw_477 inlX13 rfl dX13_readStone_150 (fun v23741 hv23741 ov23741 => ?_)
          obtain rfl : v23741 = .ref x0 := hv23741.symm.trans pf0
          refine t_getN (C := RX12) (T := TX12) (N := 31) X hT mx0 gx0 rfl rfl 16 (by decide) (List.mem_of_getElem? (i := 20) rfl) inlX12 rfl dX13_readStone_153 (fun v23742 hv23742 ov23742 => ?_)
          obtain ⟨b23743, rfl, mb23743, gb23743⟩ := okV_r ov23742
          have gb23743 : tag b23743 = 29 := tg_of gb23743
          refine lv_iload hx hb dX13_readStone_156 (lv_at hl 0 rfl) ?_
          refine lv_iload_n hx hb dX13_readStone_158 rfl (lv_at hl 5 rfl) ?_
          refine t_ist X hT mb23743 gb23743 rfl (by omega) (show (-2147483648) ≤ (2 : Int32).toInt ∧ (2 : Int32).toInt ≤ 2147483647 from (rg_all _)) dX13_readStone_159 (fun F H locs hT v23744 h1v23744 h2v23744 => ?_)
          have pf0 := (h2v23744 _ _).trans pf0
          have pf1 := (h2v23744 _ _).trans pf1
          have pf2 := (h2v23744 _ _).trans pf2
          have pf7 := (h2v23744 _ _).trans pf7
          have pf8 := (h2v23744 _ _).trans pf8
          have pf9 := (h2v23744 _ _).trans pf9
          have pf10 := (h2v23744 _ _).trans pf10
          have pf11 := (h2v23744 _ _).trans pf11
          have qsoz23730 := (h2v23744 _ _).trans qsoz23730
          have qspz23730 := (h2v23744 _ _).trans qspz23730
          have qfaz23730 := (h2v23744 _ _).trans qfaz23730
          have qz23740 := (h2v23744 _ _).trans qz23740
          have hv23742 := (h2v23744 _ _).trans hv23742
          have hfr : (∀ b j : Nat, (tag b ≠ 44 ∨ j ≠ 7) → (tag b ≠ 44 ∨ j ≠ 12) → (tag b ≠ 46 ∨ j ≠ 8) → (tag b ≠ 46 ∨ j ≠ 9) → (tag b ≠ 46 ∨ j ≠ 10) → (tag b ≠ 46 ∨ j ≠ 11) → (tag b ≠ 46 ∨ j ≠ 12) → (tag b ≠ 46 ∨ j ≠ 13) → (tag b ≠ 46 ∨ j ≠ 14) → (tag b ≠ 46 ∨ j ≠ 15) → fld F b j = fld Fo b j) ∧ (∀ b j : Nat, tag b ≠ 29 → tag b ≠ 34 → tag b ≠ 35 → tag b ≠ 36 → elm F b j = elm Fo b j) := ⟨fun b j n44_7 n44_12 n46_8 n46_9 n46_10 n46_11 n46_12 n46_13 n46_14 n46_15 => (h2v23744 b j).trans (hfr.1 b j n44_7 n44_12 n46_8 n46_9 n46_10 n46_11 n46_12 n46_13 n46_14 n46_15), fun b j a29 a34 a35 a36 => (h1v23744 b j (Or.inl (at_ne gb23743 a29))).trans (hfr.2 b j a29 a34 a35 a36)⟩
          have hrel := msr_of (fun j => h1v23744 _ j (Or.inl (tne gx1 gb23743 (by decide)))) (fun j => h1v23744 _ j (Or.inl (tne gx2 gb23743 (by decide)))) hrel
          refine lv_aload_n hx hb dX13_readStone_160 rfl (lv_at hl 7 rfl) ?_
          refine t_get (C := RX13) (T := TX13) (N := 37) X hT m0 g0 rfl rfl 4 (by decide) qw_477 inlX13 rfl dX13_readStone_161 (fun v23745 hv23745 ov23745 => ?_)
          obtain rfl : v23745 = .ref x0 := hv23745.symm.trans pf0
          refine t_getN (C := RX12) (T := TX12) (N := 31) X hT mx0 gx0 rfl rfl 17 (by decide) (List.mem_of_getElem? (i := 21) rfl) inlX12 rfl dX13_readStone_164 (fun v23746 hv23746 ov23746 => ?_)
          obtain ⟨b23747, rfl, mb23747, gb23747⟩ := okV_r ov23746
          have gb23747 : tag b23747 = 29 := tg_of gb23747
          refine lv_iload hx hb dX13_readStone_167 (lv_at hl 0 rfl) ?_
          refine lv_iload hx hb dX13_readStone_169 (lv_at hl 4 rfl) ?_
          refine t_ist X hT mb23747 gb23747 rfl (by omega) (show (-2147483648) ≤ (z23727 : Int32).toInt ∧ (z23727 : Int32).toInt ≤ 2147483647 from (rg_all _)) dX13_readStone_171 (fun F H locs hT v23748 h1v23748 h2v23748 => ?_)
          have pf0 := (h2v23748 _ _).trans pf0
          have pf1 := (h2v23748 _ _).trans pf1
          have pf2 := (h2v23748 _ _).trans pf2
          have pf7 := (h2v23748 _ _).trans pf7
          have pf8 := (h2v23748 _ _).trans pf8
          have pf9 := (h2v23748 _ _).trans pf9
          have pf10 := (h2v23748 _ _).trans pf10
          have pf11 := (h2v23748 _ _).trans pf11
          have qsoz23730 := (h2v23748 _ _).trans qsoz23730
          have qspz23730 := (h2v23748 _ _).trans qspz23730
          have qfaz23730 := (h2v23748 _ _).trans qfaz23730
          have qz23740 := (h2v23748 _ _).trans qz23740
          have hv23742 := (h2v23748 _ _).trans hv23742
          have hv23746 := (h2v23748 _ _).trans hv23746
          have hfr : (∀ b j : Nat, (tag b ≠ 44 ∨ j ≠ 7) → (tag b ≠ 44 ∨ j ≠ 12) → (tag b ≠ 46 ∨ j ≠ 8) → (tag b ≠ 46 ∨ j ≠ 9) → (tag b ≠ 46 ∨ j ≠ 10) → (tag b ≠ 46 ∨ j ≠ 11) → (tag b ≠ 46 ∨ j ≠ 12) → (tag b ≠ 46 ∨ j ≠ 13) → (tag b ≠ 46 ∨ j ≠ 14) → (tag b ≠ 46 ∨ j ≠ 15) → fld F b j = fld Fo b j) ∧ (∀ b j : Nat, tag b ≠ 29 → tag b ≠ 34 → tag b ≠ 35 → tag b ≠ 36 → elm F b j = elm Fo b j) := ⟨fun b j n44_7 n44_12 n46_8 n46_9 n46_10 n46_11 n46_12 n46_13 n46_14 n46_15 => (h2v23748 b j).trans (hfr.1 b j n44_7 n44_12 n46_8 n46_9 n46_10 n46_11 n46_12 n46_13 n46_14 n46_15), fun b j a29 a34 a35 a36 => (h1v23748 b j (Or.inl (at_ne gb23747 a29))).trans (hfr.2 b j a29 a34 a35 a36)⟩
          have hrel := msr_of (fun j => h1v23748 _ j (Or.inl (tne gx1 gb23747 (by decide)))) (fun j => h1v23748 _ j (Or.inl (tne gx2 gb23747 (by decide)))) hrel
          refine lv_aload_n hx hb dX13_readStone_172 rfl (lv_at hl 7 rfl) ?_
          refine t_get (C := RX13) (T := TX13) (N := 37) X hT m0 g0 rfl rfl 4 (by decide) qw_477 inlX13 rfl dX13_readStone_173 (fun v23749 hv23749 ov23749 => ?_)
          obtain rfl : v23749 = .ref x0 := hv23749.symm.trans pf0
          refine t_getN (C := RX12) (T := TX12) (N := 31) X hT mx0 gx0 rfl rfl 18 (by decide) (List.mem_of_getElem? (i := 22) rfl) inlX12 rfl dX13_readStone_176 (fun v23750 hv23750 ov23750 => ?_)
          obtain ⟨b23751, rfl, mb23751, gb23751⟩ := okV_r ov23750
          have gb23751 : tag b23751 = 29 := tg_of gb23751
          refine lv_iload hx hb dX13_readStone_179 (lv_at hl 0 rfl) ?_
          refine lv_iload hx hb dX13_readStone_181 (lv_at hl 3 rfl) ?_
          refine t_ist X hT mb23751 gb23751 rfl (by omega) (show (-2147483648) ≤ (z23728 : Int32).toInt ∧ (z23728 : Int32).toInt ≤ 2147483647 from (rg_all _)) dX13_readStone_183 (fun F H locs hT v23752 h1v23752 h2v23752 => ?_)
          have pf0 := (h2v23752 _ _).trans pf0
          have pf1 := (h2v23752 _ _).trans pf1
          have pf2 := (h2v23752 _ _).trans pf2
          have pf7 := (h2v23752 _ _).trans pf7
          have pf8 := (h2v23752 _ _).trans pf8
          have pf9 := (h2v23752 _ _).trans pf9
          have pf10 := (h2v23752 _ _).trans pf10
          have pf11 := (h2v23752 _ _).trans pf11
          have qsoz23730 := (h2v23752 _ _).trans qsoz23730
          have qspz23730 := (h2v23752 _ _).trans qspz23730
          have qfaz23730 := (h2v23752 _ _).trans qfaz23730
          have qz23740 := (h2v23752 _ _).trans qz23740
          have hv23742 := (h2v23752 _ _).trans hv23742
          have hv23746 := (h2v23752 _ _).trans hv23746
          have hv23750 := (h2v23752 _ _).trans hv23750
          have hfr : (∀ b j : Nat, (tag b ≠ 44 ∨ j ≠ 7) → (tag b ≠ 44 ∨ j ≠ 12) → (tag b ≠ 46 ∨ j ≠ 8) → (tag b ≠ 46 ∨ j ≠ 9) → (tag b ≠ 46 ∨ j ≠ 10) → (tag b ≠ 46 ∨ j ≠ 11) → (tag b ≠ 46 ∨ j ≠ 12) → (tag b ≠ 46 ∨ j ≠ 13) → (tag b ≠ 46 ∨ j ≠ 14) → (tag b ≠ 46 ∨ j ≠ 15) → fld F b j = fld Fo b j) ∧ (∀ b j : Nat, tag b ≠ 29 → tag b ≠ 34 → tag b ≠ 35 → tag b ≠ 36 → elm F b j = elm Fo b j) := ⟨fun b j n44_7 n44_12 n46_8 n46_9 n46_10 n46_11 n46_12 n46_13 n46_14 n46_15 => (h2v23752 b j).trans (hfr.1 b j n44_7 n44_12 n46_8 n46_9 n46_10 n46_11 n46_12 n46_13 n46_14 n46_15), fun b j a29 a34 a35 a36 => (h1v23752 b j (Or.inl (at_ne gb23751 a29))).trans (hfr.2 b j a29 a34 a35 a36)⟩
          have hrel := msr_of (fun j => h1v23752 _ j (Or.inl (tne gx1 gb23751 (by decide)))) (fun j => h1v23752 _ j (Or.inl (tne gx2 gb23751 (by decide)))) hrel
          refine lv_aload_n hx hb dX13_readStone_184 rfl (lv_at hl 7 rfl) ?_
          refine t_get (C := RX13) (T := TX13) (N := 37) X hT m0 g0 rfl rfl 4 (by decide) qw_477 inlX13 rfl dX13_readStone_185 (fun v23753 hv23753 ov23753 => ?_)
          obtain rfl : v23753 = .ref x0 := hv23753.symm.trans pf0
          refine t_getN (C := RX12) (T := TX12) (N := 31) X hT mx0 gx0 rfl rfl 19 (by decide) (List.mem_of_getElem? (i := 23) rfl) inlX12 rfl dX13_readStone_188 (fun v23754 hv23754 ov23754 => ?_)
          obtain ⟨b23755, rfl, mb23755, gb23755⟩ := okV_r ov23754
          have gb23755 : tag b23755 = 29 := tg_of gb23755
          refine lv_iload hx hb dX13_readStone_191 (lv_at hl 0 rfl) ?_
          refine lv_iload hx hb dX13_readStone_193 (lv_at hl 2 rfl) ?_
          refine t_ist X hT mb23755 gb23755 rfl (by omega) (show (-2147483648) ≤ (z23729 : Int32).toInt ∧ (z23729 : Int32).toInt ≤ 2147483647 from (rg_all _)) dX13_readStone_195 (fun F H locs hT v23756 h1v23756 h2v23756 => ?_)
          have pf0 := (h2v23756 _ _).trans pf0
          have pf1 := (h2v23756 _ _).trans pf1
          have pf2 := (h2v23756 _ _).trans pf2
          have pf7 := (h2v23756 _ _).trans pf7
          have pf8 := (h2v23756 _ _).trans pf8
          have pf9 := (h2v23756 _ _).trans pf9
          have pf10 := (h2v23756 _ _).trans pf10
          have pf11 := (h2v23756 _ _).trans pf11
          have qsoz23730 := (h2v23756 _ _).trans qsoz23730
          have qspz23730 := (h2v23756 _ _).trans qspz23730
          have qfaz23730 := (h2v23756 _ _).trans qfaz23730
          have qz23740 := (h2v23756 _ _).trans qz23740
          have hv23742 := (h2v23756 _ _).trans hv23742
          have hv23746 := (h2v23756 _ _).trans hv23746
          have hv23750 := (h2v23756 _ _).trans hv23750
          have hv23754 := (h2v23756 _ _).trans hv23754
          have hfr : (∀ b j : Nat, (tag b ≠ 44 ∨ j ≠ 7) → (tag b ≠ 44 ∨ j ≠ 12) → (tag b ≠ 46 ∨ j ≠ 8) → (tag b ≠ 46 ∨ j ≠ 9) → (tag b ≠ 46 ∨ j ≠ 10) → (tag b ≠ 46 ∨ j ≠ 11) → (tag b ≠ 46 ∨ j ≠ 12) → (tag b ≠ 46 ∨ j ≠ 13) → (tag b ≠ 46 ∨ j ≠ 14) → (tag b ≠ 46 ∨ j ≠ 15) → fld F b j = fld Fo b j) ∧ (∀ b j : Nat, tag b ≠ 29 → tag b ≠ 34 → tag b ≠ 35 → tag b ≠ 36 → elm F b j = elm Fo b j) := ⟨fun b j n44_7 n44_12 n46_8 n46_9 n46_10 n46_11 n46_12 n46_13 n46_14 n46_15 => (h2v23756 b j).trans (hfr.1 b j n44_7 n44_12 n46_8 n46_9 n46_10 n46_11 n46_12 n46_13 n46_14 n46_15), fun b j a29 a34 a35 a36 => (h1v23756 b j (Or.inl (at_ne gb23755 a29))).trans (hfr.2 b j a29 a34 a35 a36)⟩
          have hrel := msr_of (fun j => h1v23756 _ j (Or.inl (tne gx1 gb23755 (by decide)))) (fun j => h1v23756 _ j (Or.inl (tne gx2 gb23755 (by decide)))) hrel
          refine lv_aload_n hx hb dX13_readStone_196 rfl (lv_at hl 7 rfl) ?_
          refine t_get (C := RX13) (T := TX13) (N := 37) X hT m0 g0 rfl rfl 4 (by decide) qw_477 inlX13 rfl dX13_readStone_197 (fun v23757 hv23757 ov23757 => ?_)
          obtain rfl : v23757 = .ref x0 := hv23757.symm.trans pf0
          refine t_getN (C := RX12) (T := TX12) (N := 31) X hT mx0 gx0 rfl rfl 20 (by decide) (List.mem_of_getElem? (i := 24) rfl) inlX12 rfl dX13_readStone_200 (fun v23758 hv23758 ov23758 => ?_)
          obtain ⟨b23759, rfl, mb23759, gb23759⟩ := okV_r ov23758
          have gb23759 : tag b23759 = 29 := tg_of gb23759
          refine lv_iload hx hb dX13_readStone_203 (lv_at hl 0 rfl) ?_
          refine lv_iload hx hb dX13_readStone_205 (lv_at hl 1 rfl) ?_
          refine t_ist X hT mb23759 gb23759 rfl (by omega) (show (-2147483648) ≤ (z23730 : Int32).toInt ∧ (z23730 : Int32).toInt ≤ 2147483647 from (rg_all _)) dX13_readStone_207 (fun F H locs hT v23760 h1v23760 h2v23760 => ?_)
          have pf0 := (h2v23760 _ _).trans pf0
          have pf1 := (h2v23760 _ _).trans pf1
          have pf2 := (h2v23760 _ _).trans pf2
          have pf7 := (h2v23760 _ _).trans pf7
          have pf8 := (h2v23760 _ _).trans pf8
          have pf9 := (h2v23760 _ _).trans pf9
          have pf10 := (h2v23760 _ _).trans pf10
          have pf11 := (h2v23760 _ _).trans pf11
          have qsoz23730 := (h2v23760 _ _).trans qsoz23730
          have qspz23730 := (h2v23760 _ _).trans qspz23730
          have qfaz23730 := (h2v23760 _ _).trans qfaz23730
          have qz23740 := (h2v23760 _ _).trans qz23740
          have hv23742 := (h2v23760 _ _).trans hv23742
          have hv23746 := (h2v23760 _ _).trans hv23746
          have hv23750 := (h2v23760 _ _).trans hv23750
          have hv23754 := (h2v23760 _ _).trans hv23754
          have hv23758 := (h2v23760 _ _).trans hv23758
          have hfr : (∀ b j : Nat, (tag b ≠ 44 ∨ j ≠ 7) → (tag b ≠ 44 ∨ j ≠ 12) → (tag b ≠ 46 ∨ j ≠ 8) → (tag b ≠ 46 ∨ j ≠ 9) → (tag b ≠ 46 ∨ j ≠ 10) → (tag b ≠ 46 ∨ j ≠ 11) → (tag b ≠ 46 ∨ j ≠ 12) → (tag b ≠ 46 ∨ j ≠ 13) → (tag b ≠ 46 ∨ j ≠ 14) → (tag b ≠ 46 ∨ j ≠ 15) → fld F b j = fld Fo b j) ∧ (∀ b j : Nat, tag b ≠ 29 → tag b ≠ 34 → tag b ≠ 35 → tag b ≠ 36 → elm F b j = elm Fo b j) := ⟨fun b j n44_7 n44_12 n46_8 n46_9 n46_10 n46_11 n46_12 n46_13 n46_14 n46_15 => (h2v23760 b j).trans (hfr.1 b j n44_7 n44_12 n46_8 n46_9 n46_10 n46_11 n46_12 n46_13 n46_14 n46_15), fun b j a29 a34 a35 a36 => (h1v23760 b j (Or.inl (at_ne gb23759 a29))).trans (hfr.2 b j a29 a34 a35 a36)⟩
          have hrel := msr_of (fun j => h1v23760 _ j (Or.inl (tne gx1 gb23759 (by decide)))) (fun j => h1v23760 _ j (Or.inl (tne gx2 gb23759 (by decide)))) hrel
          refine lv_aload_n hx hb dX13_readStone_208 rfl (lv_at hl 7 rfl) ?_
          refine t_get (C := RX13) (T := TX13) (N := 37) X hT m0 g0 rfl rfl 4 (by decide) qw_477 inlX13 rfl dX13_readStone_209 (fun v23761 hv23761 ov23761 => ?_)
          obtain rfl : v23761 = .ref x0 := hv23761.symm.trans pf0
          refine lv_dup hx hb dX13_readStone_212 rfl ?_
          refine t_getN (C := RX12) (T := TX12) (N := 31) X hT mx0 gx0 rfl rfl 7 (by decide) (List.mem_of_getElem? (i := 11) rfl) inlX12 rfl dX13_readStone_213 (fun v23762 hv23762 ov23762 => ?_)
          obtain rfl : v23762 = .int x7 := hv23762.symm.trans pf7
          refine lv_iconst (v := 1) hx hb dX13_readStone_216 (by decide) ?_
          refine lv_iadd hx hb dX13_readStone_217 ?_
          refine lv_topi (fun z23763 ez23763 => ?_)
          have hz23763 : z23763.toInt = x7.toInt + 1 := ar_add ez23763 (rfl : x7.toInt = x7.toInt) (by decide : (1 : Int32).toInt = 1) (by omega) (by omega)
          have rz23763 : 1 ≤ z23763.toInt ∧ z23763.toInt ≤ 4 := by omega
          refine t_putN (C := RX12) (T := TX12) (N := 31) (v := .int z23763) X hT mx0 gx0 rfl tyX12 tyX12_ok nmX12 rfl 7 (by decide) (List.mem_of_getElem? (i := 11) rfl) inlX12 rfl (by first | rfl | decide) (by first | rfl | decide) rfl (⟨_, rfl, (show 0 ≤ (z23763 : Int32).toInt from (by omega)), (show (z23763 : Int32).toInt ≤ 4 from (by omega))⟩) dX13_readStone_218 (fun F H locs hT v23764 h1v23764 h2v23764 => ?_)
          have pf0 := (h1v23764 _ _ (Or.inr (by decide))).trans pf0
          have pf1 := (h1v23764 _ _ (Or.inr (by decide))).trans pf1
          have pf2 := (h1v23764 _ _ (Or.inr (by decide))).trans pf2
          have pf8 := (h1v23764 _ _ (Or.inr (by decide))).trans pf8
          have pf9 := (h1v23764 _ _ (Or.inr (by decide))).trans pf9
          have pf10 := (h1v23764 _ _ (Or.inr (by decide))).trans pf10
          have pf11 := (h1v23764 _ _ (Or.inr (by decide))).trans pf11
          have qsoz23730 := (h1v23764 _ _ (Or.inr (by decide))).trans qsoz23730
          have qspz23730 := (h1v23764 _ _ (Or.inr (by decide))).trans qspz23730
          have qfaz23730 := (h1v23764 _ _ (Or.inr (by decide))).trans qfaz23730
          have qz23740 := (h1v23764 _ _ (Or.inr (by decide))).trans qz23740
          have hv23742 := (h1v23764 _ _ (Or.inr (by decide))).trans hv23742
          have hv23746 := (h1v23764 _ _ (Or.inr (by decide))).trans hv23746
          have hv23750 := (h1v23764 _ _ (Or.inr (by decide))).trans hv23750
          have hv23754 := (h1v23764 _ _ (Or.inr (by decide))).trans hv23754
          have hv23758 := (h1v23764 _ _ (Or.inr (by decide))).trans hv23758
          have v23760 := (h2v23764 _ _).trans v23760
          have hfr : (∀ b j : Nat, (tag b ≠ 44 ∨ j ≠ 7) → (tag b ≠ 44 ∨ j ≠ 12) → (tag b ≠ 46 ∨ j ≠ 8) → (tag b ≠ 46 ∨ j ≠ 9) → (tag b ≠ 46 ∨ j ≠ 10) → (tag b ≠ 46 ∨ j ≠ 11) → (tag b ≠ 46 ∨ j ≠ 12) → (tag b ≠ 46 ∨ j ≠ 13) → (tag b ≠ 46 ∨ j ≠ 14) → (tag b ≠ 46 ∨ j ≠ 15) → fld F b j = fld Fo b j) ∧ (∀ b j : Nat, tag b ≠ 29 → tag b ≠ 34 → tag b ≠ 35 → tag b ≠ 36 → elm F b j = elm Fo b j) := ⟨fun b j n44_7 n44_12 n46_8 n46_9 n46_10 n46_11 n46_12 n46_13 n46_14 n46_15 => (h1v23764 b j (fr_ne gx0 n44_7)).trans (hfr.1 b j n44_7 n44_12 n46_8 n46_9 n46_10 n46_11 n46_12 n46_13 n46_14 n46_15), fun b j a29 a34 a35 a36 => (h2v23764 b j).trans (hfr.2 b j a29 a34 a35 a36)⟩
          have hrel := msr_of (fun j => h2v23764 _ j) (fun j => h2v23764 _ j) hrel
          have hpl : PLr z23740 z23763 x8 x9 x10 x11 := ⟨by omega, fun _ => by omega⟩
          exact t_vret hQ X hT ⟨hfr, hrel, ⟨soz23730, spz23730, faz23730, qsoz23730, qspz23730, qfaz23730, (by omega), (by omega), (by omega), hstk, hspt, hkf⟩, ⟨z23740, z23763, x8, x9, x10, x11, qz23740, v23764, pf8, pf9, pf10, pf11, (by omega), (by omega), (by omega), (by omega), (by omega), (by omega), hpl⟩⟩ (Nat.le_of_ble_eq_true rfl) (Nat.le_of_ble_eq_true rfl) dX13_readStone_221
        · have w23765 := cv_eq (rfl : soz23730.toInt = soz23730.toInt) (by decide : (5 : Int32).toInt = 5) c23732
          exact t_vret hQ X hT ⟨hfr, hrel, ⟨soz23730, spz23730, faz23730, qsoz23730, qspz23730, qfaz23730, (by omega), (by omega), (by omega), hstk, hspt, hkf⟩, ⟨x6, x7, x8, x9, x10, x11, pf6, pf7, pf8, pf9, pf10, pf11, (by omega), (by omega), (by omega), (by omega), (by omega), (by omega), hpl⟩⟩ (Nat.le_of_ble_eq_true rfl) (Nat.le_of_ble_eq_true rfl) dX13_readStone_131
    · have w23766 := cv_ne (rfl : z23709.toInt = z23709.toInt) (by decide : (0 : Int32).toInt = 0) c23710
      refine lv_iconst (v := 1) hx hb dX13_readStone_41 (by decide) ?_
      refine lv_goto (tgt := 60) hx hb dX13_readStone_42 (by decide) ?_
      refine lv_istore_n (lv' := [(3, .int 1), (1, .long z23705), (0, .ref p0)]) hx hb dX13_readStone_60 rfl hl (by decide) rfl (fun ls hl => ?_)
      refine lv_iload_n hx hb dX13_readStone_61 rfl (lv_at hl 0 rfl) ?_
      refine lv_iconst (v := (-1)) hx hb dX13_readStone_62 (by decide) ?_
      refine lv_icmp_ne (tgt := 71) hx hb dX13_readStone_63 (by decide) (fun _ => ?_) (fun c9 => absurd c9 (by decide))
      refine lv_aload_n hx hb dX13_readStone_71 rfl (lv_at hl 2 rfl) ?_
      refine t_cVv (n := 0) (C := RX13) (T := TX13) (N := 37) (As := []) (rest := []) X hT (km14_X13_goesOn l G tag L F hT.2.2.2 p0 x0 x1 x2 soz23705 spz23705 faz23705 m0 g0 mx0 gx0 pf0 mx1 gx1 pf1 mx2 gx2 pf2 (by omega) qsoz23705 (by omega) qspz23705 (by omega) qfaz23705 hkf) m0 g0 rfl rfl qw_508 qw_509 qw_510 qw_5 qw_511 ⟨rfl, by decide +kernel, by decide +kernel, by decide +kernel⟩ ⟨Nat.le_of_ble_eq_true rfl, Nat.le_of_ble_eq_true rfl⟩ hl rfl rfl (Nat.le_of_ble_eq_true rfl) dX13_readStone_72 ⟨Nat.le_of_ble_eq_true rfl, Nat.le_of_ble_eq_true rfl⟩ (fun F H locs hT hz23767 => ?_)
      obtain ⟨yz23767, ⟨soz23767, spz23767, faz23767, qsoz23767, qspz23767, qfaz23767, rsoz23767, rspz23767, rfaz23767, stz23767, ptz23767, hkf⟩⟩ := hz23767
      have pf0 := (yz23767.1 _ 4 (Or.inr (by decide)) (Or.inr (by decide)) (Or.inr (by decide)) (Or.inr (by decide)) (Or.inr (by decide)) (Or.inr (by decide))).trans pf0
      have pf1 := (yz23767.1 _ 28 (Or.inr (by decide)) (Or.inr (by decide)) (Or.inr (by decide)) (Or.inr (by decide)) (Or.inr (by decide)) (Or.inr (by decide))).trans pf1
      have pf2 := (yz23767.1 _ 29 (Or.inr (by decide)) (Or.inr (by decide)) (Or.inr (by decide)) (Or.inr (by decide)) (Or.inr (by decide)) (Or.inr (by decide))).trans pf2
      have pf6 := (yz23767.1 _ 12 (Or.inr (by decide)) (Or.inr (by decide)) (Or.inr (by decide)) (Or.inr (by decide)) (Or.inl (by rw [gx0]; decide)) (Or.inr (by decide))).trans pf6
      have pf7 := (yz23767.1 _ 7 (Or.inr (by decide)) (Or.inr (by decide)) (Or.inr (by decide)) (Or.inr (by decide)) (Or.inr (by decide)) (Or.inr (by decide))).trans pf7
      have pf8 := (yz23767.1 _ 8 (Or.inl (by rw [gx0]; decide)) (Or.inr (by decide)) (Or.inr (by decide)) (Or.inr (by decide)) (Or.inr (by decide)) (Or.inr (by decide))).trans pf8
      have pf9 := (yz23767.1 _ 9 (Or.inr (by decide)) (Or.inl (by rw [gx0]; decide)) (Or.inr (by decide)) (Or.inr (by decide)) (Or.inr (by decide)) (Or.inr (by decide))).trans pf9
      have pf10 := (yz23767.1 _ 10 (Or.inr (by decide)) (Or.inr (by decide)) (Or.inl (by rw [gx0]; decide)) (Or.inr (by decide)) (Or.inr (by decide)) (Or.inr (by decide))).trans pf10
      have pf11 := (yz23767.1 _ 0 (Or.inr (by decide)) (Or.inr (by decide)) (Or.inr (by decide)) (Or.inr (by decide)) (Or.inr (by decide)) (Or.inr (by decide))).trans pf11
      have qfaz23705 := (yz23767.1 _ 13 (Or.inr (by decide)) (Or.inr (by decide)) (Or.inr (by decide)) (Or.inr (by decide)) (Or.inr (by decide)) (Or.inr (by decide))).trans qfaz23705
      have hfr : (∀ b j : Nat, (tag b ≠ 44 ∨ j ≠ 7) → (tag b ≠ 44 ∨ j ≠ 12) → (tag b ≠ 46 ∨ j ≠ 8) → (tag b ≠ 46 ∨ j ≠ 9) → (tag b ≠ 46 ∨ j ≠ 10) → (tag b ≠ 46 ∨ j ≠ 11) → (tag b ≠ 46 ∨ j ≠ 12) → (tag b ≠ 46 ∨ j ≠ 13) → (tag b ≠ 46 ∨ j ≠ 14) → (tag b ≠ 46 ∨ j ≠ 15) → fld F b j = fld Fo b j) ∧ (∀ b j : Nat, tag b ≠ 29 → tag b ≠ 34 → tag b ≠ 35 → tag b ≠ 36 → elm F b j = elm Fo b j) := ⟨fun b j n44_7 n44_12 n46_8 n46_9 n46_10 n46_11 n46_12 n46_13 n46_14 n46_15 => (yz23767.1 b j n46_8 n46_9 n46_10 n46_11 n46_12 n46_15).trans (hfr.1 b j n44_7 n44_12 n46_8 n46_9 n46_10 n46_11 n46_12 n46_13 n46_14 n46_15), fun b j a29 a34 a35 a36 => (yz23767.2 b j ).trans (hfr.2 b j a29 a34 a35 a36)⟩
      have hrel := msr_of (fun j => yz23767.2 _ j ) (fun j => yz23767.2 _ j ) hrel
      have hstk := STK.tr hstk stz23767
      have hspt := SPT.tr hspt ptz23767
      refine lv_aload_n hx hb dX13_readStone_75 rfl (lv_at hl 2 rfl) ?_
      refine m_ldcKw X 64 rfl dX13_readStone_76 ?_
      refine lv_iconst (v := 1) hx hb dX13_readStone_79 (by decide) ?_
      refine lv_bipush (v := 9) hx hb dX13_readStone_80 (by decide) ?_
      refine t_cVi (n := 3) (C := RX13) (T := TX13) (N := 37) (As := [.ref (G.2 (100 + 64)), .int 1, .int 9]) (rest := []) X hT (km62_X13_readPart l G tag L F hT.2.2.2 p0 64 1 9 x0 x1 x2 soz23767 spz23767 faz23767 m0 g0 (by decide) (by decide) (by decide) mx0 gx0 pf0 mx1 gx1 pf1 mx2 gx2 pf2 (by omega) qsoz23767 (by omega) qspz23767 (by omega) qfaz23767 hkf) m0 g0 rfl rfl qw_552 qw_553 qw_554 qw_5 qw_555 ⟨rfl, by decide +kernel, by decide +kernel, by decide +kernel⟩ ⟨Nat.le_of_ble_eq_true rfl, Nat.le_of_ble_eq_true rfl⟩ hl rfl rfl (Nat.le_of_ble_eq_true rfl) dX13_readStone_82 ⟨Nat.le_of_ble_eq_true rfl, Nat.le_of_ble_eq_true rfl⟩ (fun z23768 F H locs hT hz23768 => ?_)
      obtain ⟨hz23768, yz23768, ⟨soz23768, spz23768, faz23768, qsoz23768, qspz23768, qfaz23768, rsoz23768, rspz23768, rfaz23768, stz23768, ptz23768, hkf⟩⟩ := hz23768
      have pf0 := (yz23768.1 _ 4 (Or.inr (by decide)) (Or.inr (by decide)) (Or.inr (by decide)) (Or.inr (by decide)) (Or.inr (by decide)) (Or.inr (by decide)) (Or.inr (by decide)) (Or.inr (by decide))).trans pf0
      have pf1 := (yz23768.1 _ 28 (Or.inr (by decide)) (Or.inr (by decide)) (Or.inr (by decide)) (Or.inr (by decide)) (Or.inr (by decide)) (Or.inr (by decide)) (Or.inr (by decide)) (Or.inr (by decide))).trans pf1
      have pf2 := (yz23768.1 _ 29 (Or.inr (by decide)) (Or.inr (by decide)) (Or.inr (by decide)) (Or.inr (by decide)) (Or.inr (by decide)) (Or.inr (by decide)) (Or.inr (by decide)) (Or.inr (by decide))).trans pf2
      have pf6 := (yz23768.1 _ 12 (Or.inr (by decide)) (Or.inr (by decide)) (Or.inr (by decide)) (Or.inr (by decide)) (Or.inl (by rw [gx0]; decide)) (Or.inr (by decide)) (Or.inr (by decide)) (Or.inr (by decide))).trans pf6
      have pf7 := (yz23768.1 _ 7 (Or.inr (by decide)) (Or.inr (by decide)) (Or.inr (by decide)) (Or.inr (by decide)) (Or.inr (by decide)) (Or.inr (by decide)) (Or.inr (by decide)) (Or.inr (by decide))).trans pf7
      have pf8 := (yz23768.1 _ 8 (Or.inl (by rw [gx0]; decide)) (Or.inr (by decide)) (Or.inr (by decide)) (Or.inr (by decide)) (Or.inr (by decide)) (Or.inr (by decide)) (Or.inr (by decide)) (Or.inr (by decide))).trans pf8
      have pf9 := (yz23768.1 _ 9 (Or.inr (by decide)) (Or.inl (by rw [gx0]; decide)) (Or.inr (by decide)) (Or.inr (by decide)) (Or.inr (by decide)) (Or.inr (by decide)) (Or.inr (by decide)) (Or.inr (by decide))).trans pf9
      have pf10 := (yz23768.1 _ 10 (Or.inr (by decide)) (Or.inr (by decide)) (Or.inl (by rw [gx0]; decide)) (Or.inr (by decide)) (Or.inr (by decide)) (Or.inr (by decide)) (Or.inr (by decide)) (Or.inr (by decide))).trans pf10
      have pf11 := (yz23768.1 _ 0 (Or.inr (by decide)) (Or.inr (by decide)) (Or.inr (by decide)) (Or.inr (by decide)) (Or.inr (by decide)) (Or.inr (by decide)) (Or.inr (by decide)) (Or.inr (by decide))).trans pf11
      have hfr : (∀ b j : Nat, (tag b ≠ 44 ∨ j ≠ 7) → (tag b ≠ 44 ∨ j ≠ 12) → (tag b ≠ 46 ∨ j ≠ 8) → (tag b ≠ 46 ∨ j ≠ 9) → (tag b ≠ 46 ∨ j ≠ 10) → (tag b ≠ 46 ∨ j ≠ 11) → (tag b ≠ 46 ∨ j ≠ 12) → (tag b ≠ 46 ∨ j ≠ 13) → (tag b ≠ 46 ∨ j ≠ 14) → (tag b ≠ 46 ∨ j ≠ 15) → fld F b j = fld Fo b j) ∧ (∀ b j : Nat, tag b ≠ 29 → tag b ≠ 34 → tag b ≠ 35 → tag b ≠ 36 → elm F b j = elm Fo b j) := ⟨fun b j n44_7 n44_12 n46_8 n46_9 n46_10 n46_11 n46_12 n46_13 n46_14 n46_15 => (yz23768.1 b j n46_8 n46_9 n46_10 n46_11 n46_12 n46_13 n46_14 n46_15).trans (hfr.1 b j n44_7 n44_12 n46_8 n46_9 n46_10 n46_11 n46_12 n46_13 n46_14 n46_15), fun b j a29 a34 a35 a36 => (yz23768.2 b j ).trans (hfr.2 b j a29 a34 a35 a36)⟩
      have hrel := msr_of (fun j => yz23768.2 _ j ) (fun j => yz23768.2 _ j ) hrel
      have hstk := STK.tr hstk stz23768
      have hspt := SPT.tr hspt ptz23768
      refine lv_istore (lv' := [(4, .int z23768), (3, .int 1), (1, .long z23705), (0, .ref p0)]) hx hb dX13_readStone_85 hl (by decide) rfl (fun ls hl => ?_)
      refine lv_aload_n hx hb dX13_readStone_87 rfl (lv_at hl 3 rfl) ?_
      refine m_ldcKw X 65 rfl dX13_readStone_88 ?_
      refine lv_iconst (v := 0) hx hb dX13_readStone_91 (by decide) ?_
      refine lv_bipush (v := 9) hx hb dX13_readStone_92 (by decide) ?_
      refine t_cVi (n := 3) (C := RX13) (T := TX13) (N := 37) (As := [.ref (G.2 (100 + 65)), .int 0, .int 9]) (rest := []) X hT (km63_X13_readPart l G tag L F hT.2.2.2 p0 65 0 9 x0 x1 x2 soz23768 spz23768 faz23768 m0 g0 (by decide) (by decide) (by decide) mx0 gx0 pf0 mx1 gx1 pf1 mx2 gx2 pf2 (by omega) qsoz23768 (by omega) qspz23768 (by omega) qfaz23768 hkf) m0 g0 rfl rfl qw_552 qw_553 qw_554 qw_5 qw_555 ⟨rfl, by decide +kernel, by decide +kernel, by decide +kernel⟩ ⟨Nat.le_of_ble_eq_true rfl, Nat.le_of_ble_eq_true rfl⟩ hl rfl rfl (Nat.le_of_ble_eq_true rfl) dX13_readStone_94 ⟨Nat.le_of_ble_eq_true rfl, Nat.le_of_ble_eq_true rfl⟩ (fun z23769 F H locs hT hz23769 => ?_)
      obtain ⟨hz23769, yz23769, ⟨soz23769, spz23769, faz23769, qsoz23769, qspz23769, qfaz23769, rsoz23769, rspz23769, rfaz23769, stz23769, ptz23769, hkf⟩⟩ := hz23769
      have pf0 := (yz23769.1 _ 4 (Or.inr (by decide)) (Or.inr (by decide)) (Or.inr (by decide)) (Or.inr (by decide)) (Or.inr (by decide)) (Or.inr (by decide)) (Or.inr (by decide)) (Or.inr (by decide))).trans pf0
      have pf1 := (yz23769.1 _ 28 (Or.inr (by decide)) (Or.inr (by decide)) (Or.inr (by decide)) (Or.inr (by decide)) (Or.inr (by decide)) (Or.inr (by decide)) (Or.inr (by decide)) (Or.inr (by decide))).trans pf1
      have pf2 := (yz23769.1 _ 29 (Or.inr (by decide)) (Or.inr (by decide)) (Or.inr (by decide)) (Or.inr (by decide)) (Or.inr (by decide)) (Or.inr (by decide)) (Or.inr (by decide)) (Or.inr (by decide))).trans pf2
      have pf6 := (yz23769.1 _ 12 (Or.inr (by decide)) (Or.inr (by decide)) (Or.inr (by decide)) (Or.inr (by decide)) (Or.inl (by rw [gx0]; decide)) (Or.inr (by decide)) (Or.inr (by decide)) (Or.inr (by decide))).trans pf6
      have pf7 := (yz23769.1 _ 7 (Or.inr (by decide)) (Or.inr (by decide)) (Or.inr (by decide)) (Or.inr (by decide)) (Or.inr (by decide)) (Or.inr (by decide)) (Or.inr (by decide)) (Or.inr (by decide))).trans pf7
      have pf8 := (yz23769.1 _ 8 (Or.inl (by rw [gx0]; decide)) (Or.inr (by decide)) (Or.inr (by decide)) (Or.inr (by decide)) (Or.inr (by decide)) (Or.inr (by decide)) (Or.inr (by decide)) (Or.inr (by decide))).trans pf8
      have pf9 := (yz23769.1 _ 9 (Or.inr (by decide)) (Or.inl (by rw [gx0]; decide)) (Or.inr (by decide)) (Or.inr (by decide)) (Or.inr (by decide)) (Or.inr (by decide)) (Or.inr (by decide)) (Or.inr (by decide))).trans pf9
      have pf10 := (yz23769.1 _ 10 (Or.inr (by decide)) (Or.inr (by decide)) (Or.inl (by rw [gx0]; decide)) (Or.inr (by decide)) (Or.inr (by decide)) (Or.inr (by decide)) (Or.inr (by decide)) (Or.inr (by decide))).trans pf10
      have pf11 := (yz23769.1 _ 0 (Or.inr (by decide)) (Or.inr (by decide)) (Or.inr (by decide)) (Or.inr (by decide)) (Or.inr (by decide)) (Or.inr (by decide)) (Or.inr (by decide)) (Or.inr (by decide))).trans pf11
      have hfr : (∀ b j : Nat, (tag b ≠ 44 ∨ j ≠ 7) → (tag b ≠ 44 ∨ j ≠ 12) → (tag b ≠ 46 ∨ j ≠ 8) → (tag b ≠ 46 ∨ j ≠ 9) → (tag b ≠ 46 ∨ j ≠ 10) → (tag b ≠ 46 ∨ j ≠ 11) → (tag b ≠ 46 ∨ j ≠ 12) → (tag b ≠ 46 ∨ j ≠ 13) → (tag b ≠ 46 ∨ j ≠ 14) → (tag b ≠ 46 ∨ j ≠ 15) → fld F b j = fld Fo b j) ∧ (∀ b j : Nat, tag b ≠ 29 → tag b ≠ 34 → tag b ≠ 35 → tag b ≠ 36 → elm F b j = elm Fo b j) := ⟨fun b j n44_7 n44_12 n46_8 n46_9 n46_10 n46_11 n46_12 n46_13 n46_14 n46_15 => (yz23769.1 b j n46_8 n46_9 n46_10 n46_11 n46_12 n46_13 n46_14 n46_15).trans (hfr.1 b j n44_7 n44_12 n46_8 n46_9 n46_10 n46_11 n46_12 n46_13 n46_14 n46_15), fun b j a29 a34 a35 a36 => (yz23769.2 b j ).trans (hfr.2 b j a29 a34 a35 a36)⟩
      have hrel := msr_of (fun j => yz23769.2 _ j ) (fun j => yz23769.2 _ j ) hrel
      have hstk := STK.tr hstk stz23769
      have hspt := SPT.tr hspt ptz23769
      refine lv_istore (lv' := [(5, .int z23769), (4, .int z23768), (3, .int 1), (1, .long z23705), (0, .ref p0)]) hx hb dX13_readStone_97 hl (by decide) rfl (fun ls hl => ?_)
      refine lv_aload_n hx hb dX13_readStone_99 rfl (lv_at hl 4 rfl) ?_
      refine m_ldcKw X 66 rfl dX13_readStone_100 ?_
      refine lv_iconst (v := 0) hx hb dX13_readStone_103 (by decide) ?_
      refine lv_bipush (v := 9) hx hb dX13_readStone_104 (by decide) ?_
      refine t_cVi (n := 3) (C := RX13) (T := TX13) (N := 37) (As := [.ref (G.2 (100 + 66)), .int 0, .int 9]) (rest := []) X hT (km63_X13_readPart l G tag L F hT.2.2.2 p0 66 0 9 x0 x1 x2 soz23769 spz23769 faz23769 m0 g0 (by decide) (by decide) (by decide) mx0 gx0 pf0 mx1 gx1 pf1 mx2 gx2 pf2 (by omega) qsoz23769 (by omega) qspz23769 (by omega) qfaz23769 hkf) m0 g0 rfl rfl qw_552 qw_553 qw_554 qw_5 qw_555 ⟨rfl, by decide +kernel, by decide +kernel, by decide +kernel⟩ ⟨Nat.le_of_ble_eq_true rfl, Nat.le_of_ble_eq_true rfl⟩ hl rfl rfl (Nat.le_of_ble_eq_true rfl) dX13_readStone_106 ⟨Nat.le_of_ble_eq_true rfl, Nat.le_of_ble_eq_true rfl⟩ (fun z23770 F H locs hT hz23770 => ?_)
      obtain ⟨hz23770, yz23770, ⟨soz23770, spz23770, faz23770, qsoz23770, qspz23770, qfaz23770, rsoz23770, rspz23770, rfaz23770, stz23770, ptz23770, hkf⟩⟩ := hz23770
      have pf0 := (yz23770.1 _ 4 (Or.inr (by decide)) (Or.inr (by decide)) (Or.inr (by decide)) (Or.inr (by decide)) (Or.inr (by decide)) (Or.inr (by decide)) (Or.inr (by decide)) (Or.inr (by decide))).trans pf0
      have pf1 := (yz23770.1 _ 28 (Or.inr (by decide)) (Or.inr (by decide)) (Or.inr (by decide)) (Or.inr (by decide)) (Or.inr (by decide)) (Or.inr (by decide)) (Or.inr (by decide)) (Or.inr (by decide))).trans pf1
      have pf2 := (yz23770.1 _ 29 (Or.inr (by decide)) (Or.inr (by decide)) (Or.inr (by decide)) (Or.inr (by decide)) (Or.inr (by decide)) (Or.inr (by decide)) (Or.inr (by decide)) (Or.inr (by decide))).trans pf2
      have pf6 := (yz23770.1 _ 12 (Or.inr (by decide)) (Or.inr (by decide)) (Or.inr (by decide)) (Or.inr (by decide)) (Or.inl (by rw [gx0]; decide)) (Or.inr (by decide)) (Or.inr (by decide)) (Or.inr (by decide))).trans pf6
      have pf7 := (yz23770.1 _ 7 (Or.inr (by decide)) (Or.inr (by decide)) (Or.inr (by decide)) (Or.inr (by decide)) (Or.inr (by decide)) (Or.inr (by decide)) (Or.inr (by decide)) (Or.inr (by decide))).trans pf7
      have pf8 := (yz23770.1 _ 8 (Or.inl (by rw [gx0]; decide)) (Or.inr (by decide)) (Or.inr (by decide)) (Or.inr (by decide)) (Or.inr (by decide)) (Or.inr (by decide)) (Or.inr (by decide)) (Or.inr (by decide))).trans pf8
      have pf9 := (yz23770.1 _ 9 (Or.inr (by decide)) (Or.inl (by rw [gx0]; decide)) (Or.inr (by decide)) (Or.inr (by decide)) (Or.inr (by decide)) (Or.inr (by decide)) (Or.inr (by decide)) (Or.inr (by decide))).trans pf9
      have pf10 := (yz23770.1 _ 10 (Or.inr (by decide)) (Or.inr (by decide)) (Or.inl (by rw [gx0]; decide)) (Or.inr (by decide)) (Or.inr (by decide)) (Or.inr (by decide)) (Or.inr (by decide)) (Or.inr (by decide))).trans pf10
      have pf11 := (yz23770.1 _ 0 (Or.inr (by decide)) (Or.inr (by decide)) (Or.inr (by decide)) (Or.inr (by decide)) (Or.inr (by decide)) (Or.inr (by decide)) (Or.inr (by decide)) (Or.inr (by decide))).trans pf11
      have hfr : (∀ b j : Nat, (tag b ≠ 44 ∨ j ≠ 7) → (tag b ≠ 44 ∨ j ≠ 12) → (tag b ≠ 46 ∨ j ≠ 8) → (tag b ≠ 46 ∨ j ≠ 9) → (tag b ≠ 46 ∨ j ≠ 10) → (tag b ≠ 46 ∨ j ≠ 11) → (tag b ≠ 46 ∨ j ≠ 12) → (tag b ≠ 46 ∨ j ≠ 13) → (tag b ≠ 46 ∨ j ≠ 14) → (tag b ≠ 46 ∨ j ≠ 15) → fld F b j = fld Fo b j) ∧ (∀ b j : Nat, tag b ≠ 29 → tag b ≠ 34 → tag b ≠ 35 → tag b ≠ 36 → elm F b j = elm Fo b j) := ⟨fun b j n44_7 n44_12 n46_8 n46_9 n46_10 n46_11 n46_12 n46_13 n46_14 n46_15 => (yz23770.1 b j n46_8 n46_9 n46_10 n46_11 n46_12 n46_13 n46_14 n46_15).trans (hfr.1 b j n44_7 n44_12 n46_8 n46_9 n46_10 n46_11 n46_12 n46_13 n46_14 n46_15), fun b j a29 a34 a35 a36 => (yz23770.2 b j ).trans (hfr.2 b j a29 a34 a35 a36)⟩
      have hrel := msr_of (fun j => yz23770.2 _ j ) (fun j => yz23770.2 _ j ) hrel
      have hstk := STK.tr hstk stz23770
      have hspt := SPT.tr hspt ptz23770
      refine lv_istore (lv' := [(6, .int z23770), (5, .int z23769), (4, .int z23768), (3, .int 1), (1, .long z23705), (0, .ref p0)]) hx hb dX13_readStone_109 hl (by decide) rfl (fun ls hl => ?_)
      refine lv_aload_n hx hb dX13_readStone_111 rfl (lv_at hl 5 rfl) ?_
      refine m_ldcKw X 67 rfl dX13_readStone_112 ?_
      refine lv_iconst (v := 1) hx hb dX13_readStone_115 (by decide) ?_
      refine lv_bipush (v := 99) hx hb dX13_readStone_116 (by decide) ?_
      refine t_cVi (n := 3) (C := RX13) (T := TX13) (N := 37) (As := [.ref (G.2 (100 + 67)), .int 1, .int 99]) (rest := []) X hT (km66_X13_readPart l G tag L F hT.2.2.2 p0 67 1 99 x0 x1 x2 soz23770 spz23770 faz23770 m0 g0 (by decide) (by decide) (by decide) mx0 gx0 pf0 mx1 gx1 pf1 mx2 gx2 pf2 (by omega) qsoz23770 (by omega) qspz23770 (by omega) qfaz23770 hkf) m0 g0 rfl rfl qw_552 qw_553 qw_554 qw_5 qw_555 ⟨rfl, by decide +kernel, by decide +kernel, by decide +kernel⟩ ⟨Nat.le_of_ble_eq_true rfl, Nat.le_of_ble_eq_true rfl⟩ hl rfl rfl (Nat.le_of_ble_eq_true rfl) dX13_readStone_118 ⟨Nat.le_of_ble_eq_true rfl, Nat.le_of_ble_eq_true rfl⟩ (fun z23771 F H locs hT hz23771 => ?_)
      obtain ⟨hz23771, yz23771, ⟨soz23771, spz23771, faz23771, qsoz23771, qspz23771, qfaz23771, rsoz23771, rspz23771, rfaz23771, stz23771, ptz23771, hkf⟩⟩ := hz23771
      have pf0 := (yz23771.1 _ 4 (Or.inr (by decide)) (Or.inr (by decide)) (Or.inr (by decide)) (Or.inr (by decide)) (Or.inr (by decide)) (Or.inr (by decide)) (Or.inr (by decide)) (Or.inr (by decide))).trans pf0
      have pf1 := (yz23771.1 _ 28 (Or.inr (by decide)) (Or.inr (by decide)) (Or.inr (by decide)) (Or.inr (by decide)) (Or.inr (by decide)) (Or.inr (by decide)) (Or.inr (by decide)) (Or.inr (by decide))).trans pf1
      have pf2 := (yz23771.1 _ 29 (Or.inr (by decide)) (Or.inr (by decide)) (Or.inr (by decide)) (Or.inr (by decide)) (Or.inr (by decide)) (Or.inr (by decide)) (Or.inr (by decide)) (Or.inr (by decide))).trans pf2
      have pf6 := (yz23771.1 _ 12 (Or.inr (by decide)) (Or.inr (by decide)) (Or.inr (by decide)) (Or.inr (by decide)) (Or.inl (by rw [gx0]; decide)) (Or.inr (by decide)) (Or.inr (by decide)) (Or.inr (by decide))).trans pf6
      have pf7 := (yz23771.1 _ 7 (Or.inr (by decide)) (Or.inr (by decide)) (Or.inr (by decide)) (Or.inr (by decide)) (Or.inr (by decide)) (Or.inr (by decide)) (Or.inr (by decide)) (Or.inr (by decide))).trans pf7
      have pf8 := (yz23771.1 _ 8 (Or.inl (by rw [gx0]; decide)) (Or.inr (by decide)) (Or.inr (by decide)) (Or.inr (by decide)) (Or.inr (by decide)) (Or.inr (by decide)) (Or.inr (by decide)) (Or.inr (by decide))).trans pf8
      have pf9 := (yz23771.1 _ 9 (Or.inr (by decide)) (Or.inl (by rw [gx0]; decide)) (Or.inr (by decide)) (Or.inr (by decide)) (Or.inr (by decide)) (Or.inr (by decide)) (Or.inr (by decide)) (Or.inr (by decide))).trans pf9
      have pf10 := (yz23771.1 _ 10 (Or.inr (by decide)) (Or.inr (by decide)) (Or.inl (by rw [gx0]; decide)) (Or.inr (by decide)) (Or.inr (by decide)) (Or.inr (by decide)) (Or.inr (by decide)) (Or.inr (by decide))).trans pf10
      have pf11 := (yz23771.1 _ 0 (Or.inr (by decide)) (Or.inr (by decide)) (Or.inr (by decide)) (Or.inr (by decide)) (Or.inr (by decide)) (Or.inr (by decide)) (Or.inr (by decide)) (Or.inr (by decide))).trans pf11
      have hfr : (∀ b j : Nat, (tag b ≠ 44 ∨ j ≠ 7) → (tag b ≠ 44 ∨ j ≠ 12) → (tag b ≠ 46 ∨ j ≠ 8) → (tag b ≠ 46 ∨ j ≠ 9) → (tag b ≠ 46 ∨ j ≠ 10) → (tag b ≠ 46 ∨ j ≠ 11) → (tag b ≠ 46 ∨ j ≠ 12) → (tag b ≠ 46 ∨ j ≠ 13) → (tag b ≠ 46 ∨ j ≠ 14) → (tag b ≠ 46 ∨ j ≠ 15) → fld F b j = fld Fo b j) ∧ (∀ b j : Nat, tag b ≠ 29 → tag b ≠ 34 → tag b ≠ 35 → tag b ≠ 36 → elm F b j = elm Fo b j) := ⟨fun b j n44_7 n44_12 n46_8 n46_9 n46_10 n46_11 n46_12 n46_13 n46_14 n46_15 => (yz23771.1 b j n46_8 n46_9 n46_10 n46_11 n46_12 n46_13 n46_14 n46_15).trans (hfr.1 b j n44_7 n44_12 n46_8 n46_9 n46_10 n46_11 n46_12 n46_13 n46_14 n46_15), fun b j a29 a34 a35 a36 => (yz23771.2 b j ).trans (hfr.2 b j a29 a34 a35 a36)⟩
      have hrel := msr_of (fun j => yz23771.2 _ j ) (fun j => yz23771.2 _ j ) hrel
      have hstk := STK.tr hstk stz23771
      have hspt := SPT.tr hspt ptz23771
      refine lv_istore (lv' := [(7, .int z23771), (6, .int z23770), (5, .int z23769), (4, .int z23768), (3, .int 1), (1, .long z23705), (0, .ref p0)]) hx hb dX13_readStone_121 hl (by decide) rfl (fun ls hl => ?_)
      refine lv_aload_n hx hb dX13_readStone_123 rfl (lv_at hl 6 rfl) ?_
      refine t_get (C := RX13) (T := TX13) (N := 37) X hT m0 g0 rfl rfl 9 (by decide) qw_478 inlX13 rfl dX13_readStone_124 (fun v23772 hv23772 ov23772 => ?_)
      obtain rfl : v23772 = .int soz23771 := hv23772.symm.trans qsoz23771
      refine lv_iconst (v := 5) hx hb dX13_readStone_127 (by decide) ?_
      refine lv_icmp_ne (tgt := 132) hx hb dX13_readStone_128 (by decide) (fun c23773 => ?_) (fun c23773 => ?_)
      · have w23774 := cv_ne (rfl : soz23771.toInt = soz23771.toInt) (by decide : (5 : Int32).toInt = 5) c23773
        have w23775 := (fun h9 => (fun h9 => (fun h9 => (fun h9 => (fun h9 => (fun h9 => pxz23703_0 (fun e9 => h9 (stz23705 e9))) (fun e9 => h9 (stz23767 e9))) (fun e9 => h9 (stz23768 e9))) (fun e9 => h9 (stz23769 e9))) (fun e9 => h9 (stz23770 e9))) (fun e9 => h9 (stz23771 e9))) (by omega)
        have w23776 := (fun h9 => (fun h9 => (fun h9 => (fun h9 => (fun h9 => (fun h9 => pxz23703_0 (fun e9 => h9 (stz23705 e9))) (fun e9 => h9 (stz23767 e9))) (fun e9 => h9 (stz23768 e9))) (fun e9 => h9 (stz23769 e9))) (fun e9 => h9 (stz23770 e9))) (fun e9 => h9 (stz23771 e9))) (by omega)
        refine lv_aload_n hx hb dX13_readStone_132 rfl (lv_at hl 6 rfl) ?_
        refine t_get (C := RX13) (T := TX13) (N := 37) X hT m0 g0 rfl rfl 4 (by decide) qw_477 inlX13 rfl dX13_readStone_133 (fun v23777 hv23777 ov23777 => ?_)
        obtain rfl : v23777 = .ref x0 := hv23777.symm.trans pf0
        refine t_getN (C := RX12) (T := TX12) (N := 31) X hT mx0 gx0 rfl rfl 7 (by decide) (List.mem_of_getElem? (i := 11) rfl) inlX12 rfl dX13_readStone_136 (fun v23778 hv23778 ov23778 => ?_)
        obtain rfl : v23778 = .int x7 := hv23778.symm.trans pf7
        refine lv_istore (lv' := [(8, .int x7), (7, .int z23771), (6, .int z23770), (5, .int z23769), (4, .int z23768), (3, .int 1), (1, .long z23705), (0, .ref p0)]) hx hb dX13_readStone_139 hl (by decide) rfl (fun ls hl => ?_)
        refine lv_aload_n hx hb dX13_readStone_141 rfl (lv_at hl 7 rfl) ?_
        refine lv_lload_n hx hb dX13_readStone_142 rfl (lv_at hl 6 rfl) ?_
        refine lv_iconst (v := 0) hx hb dX13_readStone_143 (by decide) ?_
        refine lv_iload hx hb dX13_readStone_144 (lv_at hl 0 rfl) ?_
        have w23779 : 0 ≤ x6.toInt ∧ x6.toInt ≤ 20 := by omega
        refine t_cVv (n := 3) (C := RX13) (T := TX13) (N := 37) (As := [.long z23705, .int 0, .int x7]) (rest := []) X hT (km67_X13_names l G tag L F hT.2.2.2 p0 z23705 0 x7 x0 x1 x2 x6 m0 g0 (by decide) (by omega) mx0 gx0 pf0 mx1 gx1 pf1 mx2 gx2 pf2 (by omega) pf6 hrel) m0 g0 rfl rfl qw_608 qw_609 qw_610 qw_5 qw_611 ⟨rfl, by decide +kernel, by decide +kernel, by decide +kernel⟩ ⟨Nat.le_of_ble_eq_true rfl, Nat.le_of_ble_eq_true rfl⟩ hl rfl rfl (Nat.le_of_ble_eq_true rfl) dX13_readStone_146 ⟨Nat.le_of_ble_eq_true rfl, Nat.le_of_ble_eq_true rfl⟩ (fun F H locs hT hz23780 => ?_)
        obtain ⟨yz23780, hrel, xz23780_0⟩ := hz23780
        have pf0 := (yz23780.1 _ 4 (Or.inr (by decide))).trans pf0
        have pf1 := (yz23780.1 _ 28 (Or.inr (by decide))).trans pf1
        have pf2 := (yz23780.1 _ 29 (Or.inr (by decide))).trans pf2
        have pf7 := (yz23780.1 _ 7 (Or.inr (by decide))).trans pf7
        have pf8 := (yz23780.1 _ 8 (Or.inr (by decide))).trans pf8
        have pf9 := (yz23780.1 _ 9 (Or.inr (by decide))).trans pf9
        have pf10 := (yz23780.1 _ 10 (Or.inr (by decide))).trans pf10
        have pf11 := (yz23780.1 _ 0 (Or.inr (by decide))).trans pf11
        have qsoz23771 := (yz23780.1 _ 9 (Or.inr (by decide))).trans qsoz23771
        have qspz23771 := (yz23780.1 _ 8 (Or.inr (by decide))).trans qspz23771
        have qfaz23771 := (yz23780.1 _ 13 (Or.inr (by decide))).trans qfaz23771
        have hfr : (∀ b j : Nat, (tag b ≠ 44 ∨ j ≠ 7) → (tag b ≠ 44 ∨ j ≠ 12) → (tag b ≠ 46 ∨ j ≠ 8) → (tag b ≠ 46 ∨ j ≠ 9) → (tag b ≠ 46 ∨ j ≠ 10) → (tag b ≠ 46 ∨ j ≠ 11) → (tag b ≠ 46 ∨ j ≠ 12) → (tag b ≠ 46 ∨ j ≠ 13) → (tag b ≠ 46 ∨ j ≠ 14) → (tag b ≠ 46 ∨ j ≠ 15) → fld F b j = fld Fo b j) ∧ (∀ b j : Nat, tag b ≠ 29 → tag b ≠ 34 → tag b ≠ 35 → tag b ≠ 36 → elm F b j = elm Fo b j) := ⟨fun b j n44_7 n44_12 n46_8 n46_9 n46_10 n46_11 n46_12 n46_13 n46_14 n46_15 => (yz23780.1 b j n44_12).trans (hfr.1 b j n44_7 n44_12 n46_8 n46_9 n46_10 n46_11 n46_12 n46_13 n46_14 n46_15), fun b j a29 a34 a35 a36 => (yz23780.2 b j a34 a35 a36).trans (hfr.2 b j a29 a34 a35 a36)⟩
        obtain ⟨z23781, qz23781, hz23781⟩ := xz23780_0
        have rz23781 : 0 ≤ z23781.toInt ∧ z23781.toInt ≤ 32 := by omega
        refine lv_aload_n hx hb dX13_readStone_149 rfl (lv_at hl 7 rfl) ?_
        refine t_get (C := RX13) (T := TX13) (N := 37) X hT m0 g0 rfl rfl 4 (by decide) qw_477 inlX13 rfl dX13_readStone_150 (fun v23782 hv23782 ov23782 => ?_)
        obtain rfl : v23782 = .ref x0 := hv23782.symm.trans pf0
        refine t_getN (C := RX12) (T := TX12) (N := 31) X hT mx0 gx0 rfl rfl 16 (by decide) (List.mem_of_getElem? (i := 20) rfl) inlX12 rfl dX13_readStone_153 (fun v23783 hv23783 ov23783 => ?_)
        obtain ⟨b23784, rfl, mb23784, gb23784⟩ := okV_r ov23783
        have gb23784 : tag b23784 = 29 := tg_of gb23784
        refine lv_iload hx hb dX13_readStone_156 (lv_at hl 0 rfl) ?_
        refine lv_iload_n hx hb dX13_readStone_158 rfl (lv_at hl 5 rfl) ?_
        refine t_ist X hT mb23784 gb23784 rfl (by omega) (show (-2147483648) ≤ (1 : Int32).toInt ∧ (1 : Int32).toInt ≤ 2147483647 from (rg_all _)) dX13_readStone_159 (fun F H locs hT v23785 h1v23785 h2v23785 => ?_)
        have pf0 := (h2v23785 _ _).trans pf0
        have pf1 := (h2v23785 _ _).trans pf1
        have pf2 := (h2v23785 _ _).trans pf2
        have pf7 := (h2v23785 _ _).trans pf7
        have pf8 := (h2v23785 _ _).trans pf8
        have pf9 := (h2v23785 _ _).trans pf9
        have pf10 := (h2v23785 _ _).trans pf10
        have pf11 := (h2v23785 _ _).trans pf11
        have qsoz23771 := (h2v23785 _ _).trans qsoz23771
        have qspz23771 := (h2v23785 _ _).trans qspz23771
        have qfaz23771 := (h2v23785 _ _).trans qfaz23771
        have qz23781 := (h2v23785 _ _).trans qz23781
        have hv23783 := (h2v23785 _ _).trans hv23783
        have hfr : (∀ b j : Nat, (tag b ≠ 44 ∨ j ≠ 7) → (tag b ≠ 44 ∨ j ≠ 12) → (tag b ≠ 46 ∨ j ≠ 8) → (tag b ≠ 46 ∨ j ≠ 9) → (tag b ≠ 46 ∨ j ≠ 10) → (tag b ≠ 46 ∨ j ≠ 11) → (tag b ≠ 46 ∨ j ≠ 12) → (tag b ≠ 46 ∨ j ≠ 13) → (tag b ≠ 46 ∨ j ≠ 14) → (tag b ≠ 46 ∨ j ≠ 15) → fld F b j = fld Fo b j) ∧ (∀ b j : Nat, tag b ≠ 29 → tag b ≠ 34 → tag b ≠ 35 → tag b ≠ 36 → elm F b j = elm Fo b j) := ⟨fun b j n44_7 n44_12 n46_8 n46_9 n46_10 n46_11 n46_12 n46_13 n46_14 n46_15 => (h2v23785 b j).trans (hfr.1 b j n44_7 n44_12 n46_8 n46_9 n46_10 n46_11 n46_12 n46_13 n46_14 n46_15), fun b j a29 a34 a35 a36 => (h1v23785 b j (Or.inl (at_ne gb23784 a29))).trans (hfr.2 b j a29 a34 a35 a36)⟩
        have hrel := msr_of (fun j => h1v23785 _ j (Or.inl (tne gx1 gb23784 (by decide)))) (fun j => h1v23785 _ j (Or.inl (tne gx2 gb23784 (by decide)))) hrel
        refine lv_aload_n hx hb dX13_readStone_160 rfl (lv_at hl 7 rfl) ?_
        refine t_get (C := RX13) (T := TX13) (N := 37) X hT m0 g0 rfl rfl 4 (by decide) qw_477 inlX13 rfl dX13_readStone_161 (fun v23786 hv23786 ov23786 => ?_)
        obtain rfl : v23786 = .ref x0 := hv23786.symm.trans pf0
        refine t_getN (C := RX12) (T := TX12) (N := 31) X hT mx0 gx0 rfl rfl 17 (by decide) (List.mem_of_getElem? (i := 21) rfl) inlX12 rfl dX13_readStone_164 (fun v23787 hv23787 ov23787 => ?_)
        obtain ⟨b23788, rfl, mb23788, gb23788⟩ := okV_r ov23787
        have gb23788 : tag b23788 = 29 := tg_of gb23788
        refine lv_iload hx hb dX13_readStone_167 (lv_at hl 0 rfl) ?_
        refine lv_iload hx hb dX13_readStone_169 (lv_at hl 4 rfl) ?_
        refine t_ist X hT mb23788 gb23788 rfl (by omega) (show (-2147483648) ≤ (z23768 : Int32).toInt ∧ (z23768 : Int32).toInt ≤ 2147483647 from (rg_all _)) dX13_readStone_171 (fun F H locs hT v23789 h1v23789 h2v23789 => ?_)
        have pf0 := (h2v23789 _ _).trans pf0
        have pf1 := (h2v23789 _ _).trans pf1
        have pf2 := (h2v23789 _ _).trans pf2
        have pf7 := (h2v23789 _ _).trans pf7
        have pf8 := (h2v23789 _ _).trans pf8
        have pf9 := (h2v23789 _ _).trans pf9
        have pf10 := (h2v23789 _ _).trans pf10
        have pf11 := (h2v23789 _ _).trans pf11
        have qsoz23771 := (h2v23789 _ _).trans qsoz23771
        have qspz23771 := (h2v23789 _ _).trans qspz23771
        have qfaz23771 := (h2v23789 _ _).trans qfaz23771
        have qz23781 := (h2v23789 _ _).trans qz23781
        have hv23783 := (h2v23789 _ _).trans hv23783
        have hv23787 := (h2v23789 _ _).trans hv23787
        have hfr : (∀ b j : Nat, (tag b ≠ 44 ∨ j ≠ 7) → (tag b ≠ 44 ∨ j ≠ 12) → (tag b ≠ 46 ∨ j ≠ 8) → (tag b ≠ 46 ∨ j ≠ 9) → (tag b ≠ 46 ∨ j ≠ 10) → (tag b ≠ 46 ∨ j ≠ 11) → (tag b ≠ 46 ∨ j ≠ 12) → (tag b ≠ 46 ∨ j ≠ 13) → (tag b ≠ 46 ∨ j ≠ 14) → (tag b ≠ 46 ∨ j ≠ 15) → fld F b j = fld Fo b j) ∧ (∀ b j : Nat, tag b ≠ 29 → tag b ≠ 34 → tag b ≠ 35 → tag b ≠ 36 → elm F b j = elm Fo b j) := ⟨fun b j n44_7 n44_12 n46_8 n46_9 n46_10 n46_11 n46_12 n46_13 n46_14 n46_15 => (h2v23789 b j).trans (hfr.1 b j n44_7 n44_12 n46_8 n46_9 n46_10 n46_11 n46_12 n46_13 n46_14 n46_15), fun b j a29 a34 a35 a36 => (h1v23789 b j (Or.inl (at_ne gb23788 a29))).trans (hfr.2 b j a29 a34 a35 a36)⟩
        have hrel := msr_of (fun j => h1v23789 _ j (Or.inl (tne gx1 gb23788 (by decide)))) (fun j => h1v23789 _ j (Or.inl (tne gx2 gb23788 (by decide)))) hrel
        refine lv_aload_n hx hb dX13_readStone_172 rfl (lv_at hl 7 rfl) ?_
        refine t_get (C := RX13) (T := TX13) (N := 37) X hT m0 g0 rfl rfl 4 (by decide) qw_477 inlX13 rfl dX13_readStone_173 (fun v23790 hv23790 ov23790 => ?_)
        obtain rfl : v23790 = .ref x0 := hv23790.symm.trans pf0
        refine t_getN (C := RX12) (T := TX12) (N := 31) X hT mx0 gx0 rfl rfl 18 (by decide) (List.mem_of_getElem? (i := 22) rfl) inlX12 rfl dX13_readStone_176 (fun v23791 hv23791 ov23791 => ?_)
        obtain ⟨b23792, rfl, mb23792, gb23792⟩ := okV_r ov23791
        have gb23792 : tag b23792 = 29 := tg_of gb23792
        refine lv_iload hx hb dX13_readStone_179 (lv_at hl 0 rfl) ?_
        refine lv_iload hx hb dX13_readStone_181 (lv_at hl 3 rfl) ?_
        refine t_ist X hT mb23792 gb23792 rfl (by omega) (show (-2147483648) ≤ (z23769 : Int32).toInt ∧ (z23769 : Int32).toInt ≤ 2147483647 from (rg_all _)) dX13_readStone_183 (fun F H locs hT v23793 h1v23793 h2v23793 => ?_)
        have pf0 := (h2v23793 _ _).trans pf0
        have pf1 := (h2v23793 _ _).trans pf1
        have pf2 := (h2v23793 _ _).trans pf2
        have pf7 := (h2v23793 _ _).trans pf7
        have pf8 := (h2v23793 _ _).trans pf8
        have pf9 := (h2v23793 _ _).trans pf9
        have pf10 := (h2v23793 _ _).trans pf10
        have pf11 := (h2v23793 _ _).trans pf11
        have qsoz23771 := (h2v23793 _ _).trans qsoz23771
        have qspz23771 := (h2v23793 _ _).trans qspz23771
        have qfaz23771 := (h2v23793 _ _).trans qfaz23771
        have qz23781 := (h2v23793 _ _).trans qz23781
        have hv23783 := (h2v23793 _ _).trans hv23783
        have hv23787 := (h2v23793 _ _).trans hv23787
        have hv23791 := (h2v23793 _ _).trans hv23791
        have hfr : (∀ b j : Nat, (tag b ≠ 44 ∨ j ≠ 7) → (tag b ≠ 44 ∨ j ≠ 12) → (tag b ≠ 46 ∨ j ≠ 8) → (tag b ≠ 46 ∨ j ≠ 9) → (tag b ≠ 46 ∨ j ≠ 10) → (tag b ≠ 46 ∨ j ≠ 11) → (tag b ≠ 46 ∨ j ≠ 12) → (tag b ≠ 46 ∨ j ≠ 13) → (tag b ≠ 46 ∨ j ≠ 14) → (tag b ≠ 46 ∨ j ≠ 15) → fld F b j = fld Fo b j) ∧ (∀ b j : Nat, tag b ≠ 29 → tag b ≠ 34 → tag b ≠ 35 → tag b ≠ 36 → elm F b j = elm Fo b j) := ⟨fun b j n44_7 n44_12 n46_8 n46_9 n46_10 n46_11 n46_12 n46_13 n46_14 n46_15 => (h2v23793 b j).trans (hfr.1 b j n44_7 n44_12 n46_8 n46_9 n46_10 n46_11 n46_12 n46_13 n46_14 n46_15), fun b j a29 a34 a35 a36 => (h1v23793 b j (Or.inl (at_ne gb23792 a29))).trans (hfr.2 b j a29 a34 a35 a36)⟩
        have hrel := msr_of (fun j => h1v23793 _ j (Or.inl (tne gx1 gb23792 (by decide)))) (fun j => h1v23793 _ j (Or.inl (tne gx2 gb23792 (by decide)))) hrel
        refine lv_aload_n hx hb dX13_readStone_184 rfl (lv_at hl 7 rfl) ?_
        refine t_get (C := RX13) (T := TX13) (N := 37) X hT m0 g0 rfl rfl 4 (by decide) qw_477 inlX13 rfl dX13_readStone_185 (fun v23794 hv23794 ov23794 => ?_)
        obtain rfl : v23794 = .ref x0 := hv23794.symm.trans pf0
        refine t_getN (C := RX12) (T := TX12) (N := 31) X hT mx0 gx0 rfl rfl 19 (by decide) (List.mem_of_getElem? (i := 23) rfl) inlX12 rfl dX13_readStone_188 (fun v23795 hv23795 ov23795 => ?_)
        obtain ⟨b23796, rfl, mb23796, gb23796⟩ := okV_r ov23795
        have gb23796 : tag b23796 = 29 := tg_of gb23796
        refine lv_iload hx hb dX13_readStone_191 (lv_at hl 0 rfl) ?_
        refine lv_iload hx hb dX13_readStone_193 (lv_at hl 2 rfl) ?_
        refine t_ist X hT mb23796 gb23796 rfl (by omega) (show (-2147483648) ≤ (z23770 : Int32).toInt ∧ (z23770 : Int32).toInt ≤ 2147483647 from (rg_all _)) dX13_readStone_195 (fun F H locs hT v23797 h1v23797 h2v23797 => ?_)
        have pf0 := (h2v23797 _ _).trans pf0
        have pf1 := (h2v23797 _ _).trans pf1
        have pf2 := (h2v23797 _ _).trans pf2
        have pf7 := (h2v23797 _ _).trans pf7
        have pf8 := (h2v23797 _ _).trans pf8
        have pf9 := (h2v23797 _ _).trans pf9
        have pf10 := (h2v23797 _ _).trans pf10
        have pf11 := (h2v23797 _ _).trans pf11
        have qsoz23771 := (h2v23797 _ _).trans qsoz23771
        have qspz23771 := (h2v23797 _ _).trans qspz23771
        have qfaz23771 := (h2v23797 _ _).trans qfaz23771
        have qz23781 := (h2v23797 _ _).trans qz23781
        have hv23783 := (h2v23797 _ _).trans hv23783
        have hv23787 := (h2v23797 _ _).trans hv23787
        have hv23791 := (h2v23797 _ _).trans hv23791
        have hv23795 := (h2v23797 _ _).trans hv23795
        have hfr : (∀ b j : Nat, (tag b ≠ 44 ∨ j ≠ 7) → (tag b ≠ 44 ∨ j ≠ 12) → (tag b ≠ 46 ∨ j ≠ 8) → (tag b ≠ 46 ∨ j ≠ 9) → (tag b ≠ 46 ∨ j ≠ 10) → (tag b ≠ 46 ∨ j ≠ 11) → (tag b ≠ 46 ∨ j ≠ 12) → (tag b ≠ 46 ∨ j ≠ 13) → (tag b ≠ 46 ∨ j ≠ 14) → (tag b ≠ 46 ∨ j ≠ 15) → fld F b j = fld Fo b j) ∧ (∀ b j : Nat, tag b ≠ 29 → tag b ≠ 34 → tag b ≠ 35 → tag b ≠ 36 → elm F b j = elm Fo b j) := ⟨fun b j n44_7 n44_12 n46_8 n46_9 n46_10 n46_11 n46_12 n46_13 n46_14 n46_15 => (h2v23797 b j).trans (hfr.1 b j n44_7 n44_12 n46_8 n46_9 n46_10 n46_11 n46_12 n46_13 n46_14 n46_15), fun b j a29 a34 a35 a36 => (h1v23797 b j (Or.inl (at_ne gb23796 a29))).trans (hfr.2 b j a29 a34 a35 a36)⟩
        have hrel := msr_of (fun j => h1v23797 _ j (Or.inl (tne gx1 gb23796 (by decide)))) (fun j => h1v23797 _ j (Or.inl (tne gx2 gb23796 (by decide)))) hrel
        refine lv_aload_n hx hb dX13_readStone_196 rfl (lv_at hl 7 rfl) ?_
        refine t_get (C := RX13) (T := TX13) (N := 37) X hT m0 g0 rfl rfl 4 (by decide) qw_477 inlX13 rfl dX13_readStone_197 (fun v23798 hv23798 ov23798 => ?_)
        obtain rfl : v23798 = .ref x0 := hv23798.symm.trans pf0
        refine t_getN (C := RX12) (T := TX12) (N := 31) X hT mx0 gx0 rfl rfl 20 (by decide) (List.mem_of_getElem? (i := 24) rfl) inlX12 rfl dX13_readStone_200 (fun v23799 hv23799 ov23799 => ?_)
        obtain ⟨b23800, rfl, mb23800, gb23800⟩ := okV_r ov23799
        have gb23800 : tag b23800 = 29 := tg_of gb23800
        refine lv_iload hx hb dX13_readStone_203 (lv_at hl 0 rfl) ?_
        refine lv_iload hx hb dX13_readStone_205 (lv_at hl 1 rfl) ?_
        refine t_ist X hT mb23800 gb23800 rfl (by omega) (show (-2147483648) ≤ (z23771 : Int32).toInt ∧ (z23771 : Int32).toInt ≤ 2147483647 from (rg_all _)) dX13_readStone_207 (fun F H locs hT v23801 h1v23801 h2v23801 => ?_)
        have pf0 := (h2v23801 _ _).trans pf0
        have pf1 := (h2v23801 _ _).trans pf1
        have pf2 := (h2v23801 _ _).trans pf2
        have pf7 := (h2v23801 _ _).trans pf7
        have pf8 := (h2v23801 _ _).trans pf8
        have pf9 := (h2v23801 _ _).trans pf9
        have pf10 := (h2v23801 _ _).trans pf10
        have pf11 := (h2v23801 _ _).trans pf11
        have qsoz23771 := (h2v23801 _ _).trans qsoz23771
        have qspz23771 := (h2v23801 _ _).trans qspz23771
        have qfaz23771 := (h2v23801 _ _).trans qfaz23771
        have qz23781 := (h2v23801 _ _).trans qz23781
        have hv23783 := (h2v23801 _ _).trans hv23783
        have hv23787 := (h2v23801 _ _).trans hv23787
        have hv23791 := (h2v23801 _ _).trans hv23791
        have hv23795 := (h2v23801 _ _).trans hv23795
        have hv23799 := (h2v23801 _ _).trans hv23799
        have hfr : (∀ b j : Nat, (tag b ≠ 44 ∨ j ≠ 7) → (tag b ≠ 44 ∨ j ≠ 12) → (tag b ≠ 46 ∨ j ≠ 8) → (tag b ≠ 46 ∨ j ≠ 9) → (tag b ≠ 46 ∨ j ≠ 10) → (tag b ≠ 46 ∨ j ≠ 11) → (tag b ≠ 46 ∨ j ≠ 12) → (tag b ≠ 46 ∨ j ≠ 13) → (tag b ≠ 46 ∨ j ≠ 14) → (tag b ≠ 46 ∨ j ≠ 15) → fld F b j = fld Fo b j) ∧ (∀ b j : Nat, tag b ≠ 29 → tag b ≠ 34 → tag b ≠ 35 → tag b ≠ 36 → elm F b j = elm Fo b j) := ⟨fun b j n44_7 n44_12 n46_8 n46_9 n46_10 n46_11 n46_12 n46_13 n46_14 n46_15 => (h2v23801 b j).trans (hfr.1 b j n44_7 n44_12 n46_8 n46_9 n46_10 n46_11 n46_12 n46_13 n46_14 n46_15), fun b j a29 a34 a35 a36 => (h1v23801 b j (Or.inl (at_ne gb23800 a29))).trans (hfr.2 b j a29 a34 a35 a36)⟩
        have hrel := msr_of (fun j => h1v23801 _ j (Or.inl (tne gx1 gb23800 (by decide)))) (fun j => h1v23801 _ j (Or.inl (tne gx2 gb23800 (by decide)))) hrel
        refine lv_aload_n hx hb dX13_readStone_208 rfl (lv_at hl 7 rfl) ?_
        refine t_get (C := RX13) (T := TX13) (N := 37) X hT m0 g0 rfl rfl 4 (by decide) qw_477 inlX13 rfl dX13_readStone_209 (fun v23802 hv23802 ov23802 => ?_)
        obtain rfl : v23802 = .ref x0 := hv23802.symm.trans pf0
        refine lv_dup hx hb dX13_readStone_212 rfl ?_
        refine t_getN (C := RX12) (T := TX12) (N := 31) X hT mx0 gx0 rfl rfl 7 (by decide) (List.mem_of_getElem? (i := 11) rfl) inlX12 rfl dX13_readStone_213 (fun v23803 hv23803 ov23803 => ?_)
        obtain rfl : v23803 = .int x7 := hv23803.symm.trans pf7
        refine lv_iconst (v := 1) hx hb dX13_readStone_216 (by decide) ?_
        refine lv_iadd hx hb dX13_readStone_217 ?_
        refine lv_topi (fun z23804 ez23804 => ?_)
        have hz23804 : z23804.toInt = x7.toInt + 1 := ar_add ez23804 (rfl : x7.toInt = x7.toInt) (by decide : (1 : Int32).toInt = 1) (by omega) (by omega)
        have rz23804 : 1 ≤ z23804.toInt ∧ z23804.toInt ≤ 4 := by omega
        refine t_putN (C := RX12) (T := TX12) (N := 31) (v := .int z23804) X hT mx0 gx0 rfl tyX12 tyX12_ok nmX12 rfl 7 (by decide) (List.mem_of_getElem? (i := 11) rfl) inlX12 rfl (by first | rfl | decide) (by first | rfl | decide) rfl (⟨_, rfl, (show 0 ≤ (z23804 : Int32).toInt from (by omega)), (show (z23804 : Int32).toInt ≤ 4 from (by omega))⟩) dX13_readStone_218 (fun F H locs hT v23805 h1v23805 h2v23805 => ?_)
        have pf0 := (h1v23805 _ _ (Or.inr (by decide))).trans pf0
        have pf1 := (h1v23805 _ _ (Or.inr (by decide))).trans pf1
        have pf2 := (h1v23805 _ _ (Or.inr (by decide))).trans pf2
        have pf8 := (h1v23805 _ _ (Or.inr (by decide))).trans pf8
        have pf9 := (h1v23805 _ _ (Or.inr (by decide))).trans pf9
        have pf10 := (h1v23805 _ _ (Or.inr (by decide))).trans pf10
        have pf11 := (h1v23805 _ _ (Or.inr (by decide))).trans pf11
        have qsoz23771 := (h1v23805 _ _ (Or.inr (by decide))).trans qsoz23771
        have qspz23771 := (h1v23805 _ _ (Or.inr (by decide))).trans qspz23771
        have qfaz23771 := (h1v23805 _ _ (Or.inr (by decide))).trans qfaz23771
        have qz23781 := (h1v23805 _ _ (Or.inr (by decide))).trans qz23781
        have hv23783 := (h1v23805 _ _ (Or.inr (by decide))).trans hv23783
        have hv23787 := (h1v23805 _ _ (Or.inr (by decide))).trans hv23787
        have hv23791 := (h1v23805 _ _ (Or.inr (by decide))).trans hv23791
        have hv23795 := (h1v23805 _ _ (Or.inr (by decide))).trans hv23795
        have hv23799 := (h1v23805 _ _ (Or.inr (by decide))).trans hv23799
        have v23801 := (h2v23805 _ _).trans v23801
        have hfr : (∀ b j : Nat, (tag b ≠ 44 ∨ j ≠ 7) → (tag b ≠ 44 ∨ j ≠ 12) → (tag b ≠ 46 ∨ j ≠ 8) → (tag b ≠ 46 ∨ j ≠ 9) → (tag b ≠ 46 ∨ j ≠ 10) → (tag b ≠ 46 ∨ j ≠ 11) → (tag b ≠ 46 ∨ j ≠ 12) → (tag b ≠ 46 ∨ j ≠ 13) → (tag b ≠ 46 ∨ j ≠ 14) → (tag b ≠ 46 ∨ j ≠ 15) → fld F b j = fld Fo b j) ∧ (∀ b j : Nat, tag b ≠ 29 → tag b ≠ 34 → tag b ≠ 35 → tag b ≠ 36 → elm F b j = elm Fo b j) := ⟨fun b j n44_7 n44_12 n46_8 n46_9 n46_10 n46_11 n46_12 n46_13 n46_14 n46_15 => (h1v23805 b j (fr_ne gx0 n44_7)).trans (hfr.1 b j n44_7 n44_12 n46_8 n46_9 n46_10 n46_11 n46_12 n46_13 n46_14 n46_15), fun b j a29 a34 a35 a36 => (h2v23805 b j).trans (hfr.2 b j a29 a34 a35 a36)⟩
        have hrel := msr_of (fun j => h2v23805 _ j) (fun j => h2v23805 _ j) hrel
        have hpl : PLr z23781 z23804 x8 x9 x10 x11 := ⟨by omega, fun _ => by omega⟩
        exact t_vret hQ X hT ⟨hfr, hrel, ⟨soz23771, spz23771, faz23771, qsoz23771, qspz23771, qfaz23771, (by omega), (by omega), (by omega), hstk, hspt, hkf⟩, ⟨z23781, z23804, x8, x9, x10, x11, qz23781, v23805, pf8, pf9, pf10, pf11, (by omega), (by omega), (by omega), (by omega), (by omega), (by omega), hpl⟩⟩ (Nat.le_of_ble_eq_true rfl) (Nat.le_of_ble_eq_true rfl) dX13_readStone_221
      · have w23806 := cv_eq (rfl : soz23771.toInt = soz23771.toInt) (by decide : (5 : Int32).toInt = 5) c23773
        exact t_vret hQ X hT ⟨hfr, hrel, ⟨soz23771, spz23771, faz23771, qsoz23771, qspz23771, qfaz23771, (by omega), (by omega), (by omega), hstk, hspt, hkf⟩, ⟨x6, x7, x8, x9, x10, x11, pf6, pf7, pf8, pf9, pf10, pf11, (by omega), (by omega), (by omega), (by omega), (by omega), (by omega), hpl⟩⟩ (Nat.le_of_ble_eq_true rfl) (Nat.le_of_ble_eq_true rfl) dX13_readStone_131
  · have w23807 := cv_ne (rfl : z23706.toInt = z23706.toInt) (by decide : (0 : Int32).toInt = 0) c23707
    refine lv_iconst (v := 0) hx hb dX13_readStone_27 (by decide) ?_
    refine lv_goto (tgt := 60) hx hb dX13_readStone_28 (by decide) ?_
    refine lv_istore_n (lv' := [(3, .int 0), (1, .long z23705), (0, .ref p0)]) hx hb dX13_readStone_60 rfl hl (by decide) rfl (fun ls hl => ?_)
    refine lv_iload_n hx hb dX13_readStone_61 rfl (lv_at hl 0 rfl) ?_
    refine lv_iconst (v := (-1)) hx hb dX13_readStone_62 (by decide) ?_
    refine lv_icmp_ne (tgt := 71) hx hb dX13_readStone_63 (by decide) (fun _ => ?_) (fun c9 => absurd c9 (by decide))
    refine lv_aload_n hx hb dX13_readStone_71 rfl (lv_at hl 2 rfl) ?_
    refine t_cVv (n := 0) (C := RX13) (T := TX13) (N := 37) (As := []) (rest := []) X hT (km14_X13_goesOn l G tag L F hT.2.2.2 p0 x0 x1 x2 soz23705 spz23705 faz23705 m0 g0 mx0 gx0 pf0 mx1 gx1 pf1 mx2 gx2 pf2 (by omega) qsoz23705 (by omega) qspz23705 (by omega) qfaz23705 hkf) m0 g0 rfl rfl qw_508 qw_509 qw_510 qw_5 qw_511 ⟨rfl, by decide +kernel, by decide +kernel, by decide +kernel⟩ ⟨Nat.le_of_ble_eq_true rfl, Nat.le_of_ble_eq_true rfl⟩ hl rfl rfl (Nat.le_of_ble_eq_true rfl) dX13_readStone_72 ⟨Nat.le_of_ble_eq_true rfl, Nat.le_of_ble_eq_true rfl⟩ (fun F H locs hT hz23808 => ?_)
    obtain ⟨yz23808, ⟨soz23808, spz23808, faz23808, qsoz23808, qspz23808, qfaz23808, rsoz23808, rspz23808, rfaz23808, stz23808, ptz23808, hkf⟩⟩ := hz23808
    have pf0 := (yz23808.1 _ 4 (Or.inr (by decide)) (Or.inr (by decide)) (Or.inr (by decide)) (Or.inr (by decide)) (Or.inr (by decide)) (Or.inr (by decide))).trans pf0
    have pf1 := (yz23808.1 _ 28 (Or.inr (by decide)) (Or.inr (by decide)) (Or.inr (by decide)) (Or.inr (by decide)) (Or.inr (by decide)) (Or.inr (by decide))).trans pf1
    have pf2 := (yz23808.1 _ 29 (Or.inr (by decide)) (Or.inr (by decide)) (Or.inr (by decide)) (Or.inr (by decide)) (Or.inr (by decide)) (Or.inr (by decide))).trans pf2
    have pf6 := (yz23808.1 _ 12 (Or.inr (by decide)) (Or.inr (by decide)) (Or.inr (by decide)) (Or.inr (by decide)) (Or.inl (by rw [gx0]; decide)) (Or.inr (by decide))).trans pf6
    have pf7 := (yz23808.1 _ 7 (Or.inr (by decide)) (Or.inr (by decide)) (Or.inr (by decide)) (Or.inr (by decide)) (Or.inr (by decide)) (Or.inr (by decide))).trans pf7
    have pf8 := (yz23808.1 _ 8 (Or.inl (by rw [gx0]; decide)) (Or.inr (by decide)) (Or.inr (by decide)) (Or.inr (by decide)) (Or.inr (by decide)) (Or.inr (by decide))).trans pf8
    have pf9 := (yz23808.1 _ 9 (Or.inr (by decide)) (Or.inl (by rw [gx0]; decide)) (Or.inr (by decide)) (Or.inr (by decide)) (Or.inr (by decide)) (Or.inr (by decide))).trans pf9
    have pf10 := (yz23808.1 _ 10 (Or.inr (by decide)) (Or.inr (by decide)) (Or.inl (by rw [gx0]; decide)) (Or.inr (by decide)) (Or.inr (by decide)) (Or.inr (by decide))).trans pf10
    have pf11 := (yz23808.1 _ 0 (Or.inr (by decide)) (Or.inr (by decide)) (Or.inr (by decide)) (Or.inr (by decide)) (Or.inr (by decide)) (Or.inr (by decide))).trans pf11
    have qfaz23705 := (yz23808.1 _ 13 (Or.inr (by decide)) (Or.inr (by decide)) (Or.inr (by decide)) (Or.inr (by decide)) (Or.inr (by decide)) (Or.inr (by decide))).trans qfaz23705
    have hfr : (∀ b j : Nat, (tag b ≠ 44 ∨ j ≠ 7) → (tag b ≠ 44 ∨ j ≠ 12) → (tag b ≠ 46 ∨ j ≠ 8) → (tag b ≠ 46 ∨ j ≠ 9) → (tag b ≠ 46 ∨ j ≠ 10) → (tag b ≠ 46 ∨ j ≠ 11) → (tag b ≠ 46 ∨ j ≠ 12) → (tag b ≠ 46 ∨ j ≠ 13) → (tag b ≠ 46 ∨ j ≠ 14) → (tag b ≠ 46 ∨ j ≠ 15) → fld F b j = fld Fo b j) ∧ (∀ b j : Nat, tag b ≠ 29 → tag b ≠ 34 → tag b ≠ 35 → tag b ≠ 36 → elm F b j = elm Fo b j) := ⟨fun b j n44_7 n44_12 n46_8 n46_9 n46_10 n46_11 n46_12 n46_13 n46_14 n46_15 => (yz23808.1 b j n46_8 n46_9 n46_10 n46_11 n46_12 n46_15).trans (hfr.1 b j n44_7 n44_12 n46_8 n46_9 n46_10 n46_11 n46_12 n46_13 n46_14 n46_15), fun b j a29 a34 a35 a36 => (yz23808.2 b j ).trans (hfr.2 b j a29 a34 a35 a36)⟩
    have hrel := msr_of (fun j => yz23808.2 _ j ) (fun j => yz23808.2 _ j ) hrel
    have hstk := STK.tr hstk stz23808
    have hspt := SPT.tr hspt ptz23808
    refine lv_aload_n hx hb dX13_readStone_75 rfl (lv_at hl 2 rfl) ?_
    refine m_ldcKw X 64 rfl dX13_readStone_76 ?_
    refine lv_iconst (v := 1) hx hb dX13_readStone_79 (by decide) ?_
    refine lv_bipush (v := 9) hx hb dX13_readStone_80 (by decide) ?_
    refine t_cVi (n := 3) (C := RX13) (T := TX13) (N := 37) (As := [.ref (G.2 (100 + 64)), .int 1, .int 9]) (rest := []) X hT (km62_X13_readPart l G tag L F hT.2.2.2 p0 64 1 9 x0 x1 x2 soz23808 spz23808 faz23808 m0 g0 (by decide) (by decide) (by decide) mx0 gx0 pf0 mx1 gx1 pf1 mx2 gx2 pf2 (by omega) qsoz23808 (by omega) qspz23808 (by omega) qfaz23808 hkf) m0 g0 rfl rfl qw_552 qw_553 qw_554 qw_5 qw_555 ⟨rfl, by decide +kernel, by decide +kernel, by decide +kernel⟩ ⟨Nat.le_of_ble_eq_true rfl, Nat.le_of_ble_eq_true rfl⟩ hl rfl rfl (Nat.le_of_ble_eq_true rfl) dX13_readStone_82 ⟨Nat.le_of_ble_eq_true rfl, Nat.le_of_ble_eq_true rfl⟩ (fun z23809 F H locs hT hz23809 => ?_)
    obtain ⟨hz23809, yz23809, ⟨soz23809, spz23809, faz23809, qsoz23809, qspz23809, qfaz23809, rsoz23809, rspz23809, rfaz23809, stz23809, ptz23809, hkf⟩⟩ := hz23809
    have pf0 := (yz23809.1 _ 4 (Or.inr (by decide)) (Or.inr (by decide)) (Or.inr (by decide)) (Or.inr (by decide)) (Or.inr (by decide)) (Or.inr (by decide)) (Or.inr (by decide)) (Or.inr (by decide))).trans pf0
    have pf1 := (yz23809.1 _ 28 (Or.inr (by decide)) (Or.inr (by decide)) (Or.inr (by decide)) (Or.inr (by decide)) (Or.inr (by decide)) (Or.inr (by decide)) (Or.inr (by decide)) (Or.inr (by decide))).trans pf1
    have pf2 := (yz23809.1 _ 29 (Or.inr (by decide)) (Or.inr (by decide)) (Or.inr (by decide)) (Or.inr (by decide)) (Or.inr (by decide)) (Or.inr (by decide)) (Or.inr (by decide)) (Or.inr (by decide))).trans pf2
    have pf6 := (yz23809.1 _ 12 (Or.inr (by decide)) (Or.inr (by decide)) (Or.inr (by decide)) (Or.inr (by decide)) (Or.inl (by rw [gx0]; decide)) (Or.inr (by decide)) (Or.inr (by decide)) (Or.inr (by decide))).trans pf6
    have pf7 := (yz23809.1 _ 7 (Or.inr (by decide)) (Or.inr (by decide)) (Or.inr (by decide)) (Or.inr (by decide)) (Or.inr (by decide)) (Or.inr (by decide)) (Or.inr (by decide)) (Or.inr (by decide))).trans pf7
    have pf8 := (yz23809.1 _ 8 (Or.inl (by rw [gx0]; decide)) (Or.inr (by decide)) (Or.inr (by decide)) (Or.inr (by decide)) (Or.inr (by decide)) (Or.inr (by decide)) (Or.inr (by decide)) (Or.inr (by decide))).trans pf8
    have pf9 := (yz23809.1 _ 9 (Or.inr (by decide)) (Or.inl (by rw [gx0]; decide)) (Or.inr (by decide)) (Or.inr (by decide)) (Or.inr (by decide)) (Or.inr (by decide)) (Or.inr (by decide)) (Or.inr (by decide))).trans pf9
    have pf10 := (yz23809.1 _ 10 (Or.inr (by decide)) (Or.inr (by decide)) (Or.inl (by rw [gx0]; decide)) (Or.inr (by decide)) (Or.inr (by decide)) (Or.inr (by decide)) (Or.inr (by decide)) (Or.inr (by decide))).trans pf10
    have pf11 := (yz23809.1 _ 0 (Or.inr (by decide)) (Or.inr (by decide)) (Or.inr (by decide)) (Or.inr (by decide)) (Or.inr (by decide)) (Or.inr (by decide)) (Or.inr (by decide)) (Or.inr (by decide))).trans pf11
    have hfr : (∀ b j : Nat, (tag b ≠ 44 ∨ j ≠ 7) → (tag b ≠ 44 ∨ j ≠ 12) → (tag b ≠ 46 ∨ j ≠ 8) → (tag b ≠ 46 ∨ j ≠ 9) → (tag b ≠ 46 ∨ j ≠ 10) → (tag b ≠ 46 ∨ j ≠ 11) → (tag b ≠ 46 ∨ j ≠ 12) → (tag b ≠ 46 ∨ j ≠ 13) → (tag b ≠ 46 ∨ j ≠ 14) → (tag b ≠ 46 ∨ j ≠ 15) → fld F b j = fld Fo b j) ∧ (∀ b j : Nat, tag b ≠ 29 → tag b ≠ 34 → tag b ≠ 35 → tag b ≠ 36 → elm F b j = elm Fo b j) := ⟨fun b j n44_7 n44_12 n46_8 n46_9 n46_10 n46_11 n46_12 n46_13 n46_14 n46_15 => (yz23809.1 b j n46_8 n46_9 n46_10 n46_11 n46_12 n46_13 n46_14 n46_15).trans (hfr.1 b j n44_7 n44_12 n46_8 n46_9 n46_10 n46_11 n46_12 n46_13 n46_14 n46_15), fun b j a29 a34 a35 a36 => (yz23809.2 b j ).trans (hfr.2 b j a29 a34 a35 a36)⟩
    have hrel := msr_of (fun j => yz23809.2 _ j ) (fun j => yz23809.2 _ j ) hrel
    have hstk := STK.tr hstk stz23809
    have hspt := SPT.tr hspt ptz23809
    refine lv_istore (lv' := [(4, .int z23809), (3, .int 0), (1, .long z23705), (0, .ref p0)]) hx hb dX13_readStone_85 hl (by decide) rfl (fun ls hl => ?_)
    refine lv_aload_n hx hb dX13_readStone_87 rfl (lv_at hl 3 rfl) ?_
    refine m_ldcKw X 65 rfl dX13_readStone_88 ?_
    refine lv_iconst (v := 0) hx hb dX13_readStone_91 (by decide) ?_
    refine lv_bipush (v := 9) hx hb dX13_readStone_92 (by decide) ?_
    refine t_cVi (n := 3) (C := RX13) (T := TX13) (N := 37) (As := [.ref (G.2 (100 + 65)), .int 0, .int 9]) (rest := []) X hT (km63_X13_readPart l G tag L F hT.2.2.2 p0 65 0 9 x0 x1 x2 soz23809 spz23809 faz23809 m0 g0 (by decide) (by decide) (by decide) mx0 gx0 pf0 mx1 gx1 pf1 mx2 gx2 pf2 (by omega) qsoz23809 (by omega) qspz23809 (by omega) qfaz23809 hkf) m0 g0 rfl rfl qw_552 qw_553 qw_554 qw_5 qw_555 ⟨rfl, by decide +kernel, by decide +kernel, by decide +kernel⟩ ⟨Nat.le_of_ble_eq_true rfl, Nat.le_of_ble_eq_true rfl⟩ hl rfl rfl (Nat.le_of_ble_eq_true rfl) dX13_readStone_94 ⟨Nat.le_of_ble_eq_true rfl, Nat.le_of_ble_eq_true rfl⟩ (fun z23810 F H locs hT hz23810 => ?_)
    obtain ⟨hz23810, yz23810, ⟨soz23810, spz23810, faz23810, qsoz23810, qspz23810, qfaz23810, rsoz23810, rspz23810, rfaz23810, stz23810, ptz23810, hkf⟩⟩ := hz23810
    have pf0 := (yz23810.1 _ 4 (Or.inr (by decide)) (Or.inr (by decide)) (Or.inr (by decide)) (Or.inr (by decide)) (Or.inr (by decide)) (Or.inr (by decide)) (Or.inr (by decide)) (Or.inr (by decide))).trans pf0
    have pf1 := (yz23810.1 _ 28 (Or.inr (by decide)) (Or.inr (by decide)) (Or.inr (by decide)) (Or.inr (by decide)) (Or.inr (by decide)) (Or.inr (by decide)) (Or.inr (by decide)) (Or.inr (by decide))).trans pf1
    have pf2 := (yz23810.1 _ 29 (Or.inr (by decide)) (Or.inr (by decide)) (Or.inr (by decide)) (Or.inr (by decide)) (Or.inr (by decide)) (Or.inr (by decide)) (Or.inr (by decide)) (Or.inr (by decide))).trans pf2
    have pf6 := (yz23810.1 _ 12 (Or.inr (by decide)) (Or.inr (by decide)) (Or.inr (by decide)) (Or.inr (by decide)) (Or.inl (by rw [gx0]; decide)) (Or.inr (by decide)) (Or.inr (by decide)) (Or.inr (by decide))).trans pf6
    have pf7 := (yz23810.1 _ 7 (Or.inr (by decide)) (Or.inr (by decide)) (Or.inr (by decide)) (Or.inr (by decide)) (Or.inr (by decide)) (Or.inr (by decide)) (Or.inr (by decide)) (Or.inr (by decide))).trans pf7
    have pf8 := (yz23810.1 _ 8 (Or.inl (by rw [gx0]; decide)) (Or.inr (by decide)) (Or.inr (by decide)) (Or.inr (by decide)) (Or.inr (by decide)) (Or.inr (by decide)) (Or.inr (by decide)) (Or.inr (by decide))).trans pf8
    have pf9 := (yz23810.1 _ 9 (Or.inr (by decide)) (Or.inl (by rw [gx0]; decide)) (Or.inr (by decide)) (Or.inr (by decide)) (Or.inr (by decide)) (Or.inr (by decide)) (Or.inr (by decide)) (Or.inr (by decide))).trans pf9
    have pf10 := (yz23810.1 _ 10 (Or.inr (by decide)) (Or.inr (by decide)) (Or.inl (by rw [gx0]; decide)) (Or.inr (by decide)) (Or.inr (by decide)) (Or.inr (by decide)) (Or.inr (by decide)) (Or.inr (by decide))).trans pf10
    have pf11 := (yz23810.1 _ 0 (Or.inr (by decide)) (Or.inr (by decide)) (Or.inr (by decide)) (Or.inr (by decide)) (Or.inr (by decide)) (Or.inr (by decide)) (Or.inr (by decide)) (Or.inr (by decide))).trans pf11
    have hfr : (∀ b j : Nat, (tag b ≠ 44 ∨ j ≠ 7) → (tag b ≠ 44 ∨ j ≠ 12) → (tag b ≠ 46 ∨ j ≠ 8) → (tag b ≠ 46 ∨ j ≠ 9) → (tag b ≠ 46 ∨ j ≠ 10) → (tag b ≠ 46 ∨ j ≠ 11) → (tag b ≠ 46 ∨ j ≠ 12) → (tag b ≠ 46 ∨ j ≠ 13) → (tag b ≠ 46 ∨ j ≠ 14) → (tag b ≠ 46 ∨ j ≠ 15) → fld F b j = fld Fo b j) ∧ (∀ b j : Nat, tag b ≠ 29 → tag b ≠ 34 → tag b ≠ 35 → tag b ≠ 36 → elm F b j = elm Fo b j) := ⟨fun b j n44_7 n44_12 n46_8 n46_9 n46_10 n46_11 n46_12 n46_13 n46_14 n46_15 => (yz23810.1 b j n46_8 n46_9 n46_10 n46_11 n46_12 n46_13 n46_14 n46_15).trans (hfr.1 b j n44_7 n44_12 n46_8 n46_9 n46_10 n46_11 n46_12 n46_13 n46_14 n46_15), fun b j a29 a34 a35 a36 => (yz23810.2 b j ).trans (hfr.2 b j a29 a34 a35 a36)⟩
    have hrel := msr_of (fun j => yz23810.2 _ j ) (fun j => yz23810.2 _ j ) hrel
    have hstk := STK.tr hstk stz23810
    have hspt := SPT.tr hspt ptz23810
    refine lv_istore (lv' := [(5, .int z23810), (4, .int z23809), (3, .int 0), (1, .long z23705), (0, .ref p0)]) hx hb dX13_readStone_97 hl (by decide) rfl (fun ls hl => ?_)
    refine lv_aload_n hx hb dX13_readStone_99 rfl (lv_at hl 4 rfl) ?_
    refine m_ldcKw X 66 rfl dX13_readStone_100 ?_
    refine lv_iconst (v := 0) hx hb dX13_readStone_103 (by decide) ?_
    refine lv_bipush (v := 9) hx hb dX13_readStone_104 (by decide) ?_
    refine t_cVi (n := 3) (C := RX13) (T := TX13) (N := 37) (As := [.ref (G.2 (100 + 66)), .int 0, .int 9]) (rest := []) X hT (km63_X13_readPart l G tag L F hT.2.2.2 p0 66 0 9 x0 x1 x2 soz23810 spz23810 faz23810 m0 g0 (by decide) (by decide) (by decide) mx0 gx0 pf0 mx1 gx1 pf1 mx2 gx2 pf2 (by omega) qsoz23810 (by omega) qspz23810 (by omega) qfaz23810 hkf) m0 g0 rfl rfl qw_552 qw_553 qw_554 qw_5 qw_555 ⟨rfl, by decide +kernel, by decide +kernel, by decide +kernel⟩ ⟨Nat.le_of_ble_eq_true rfl, Nat.le_of_ble_eq_true rfl⟩ hl rfl rfl (Nat.le_of_ble_eq_true rfl) dX13_readStone_106 ⟨Nat.le_of_ble_eq_true rfl, Nat.le_of_ble_eq_true rfl⟩ (fun z23811 F H locs hT hz23811 => ?_)
    obtain ⟨hz23811, yz23811, ⟨soz23811, spz23811, faz23811, qsoz23811, qspz23811, qfaz23811, rsoz23811, rspz23811, rfaz23811, stz23811, ptz23811, hkf⟩⟩ := hz23811
    have pf0 := (yz23811.1 _ 4 (Or.inr (by decide)) (Or.inr (by decide)) (Or.inr (by decide)) (Or.inr (by decide)) (Or.inr (by decide)) (Or.inr (by decide)) (Or.inr (by decide)) (Or.inr (by decide))).trans pf0
    have pf1 := (yz23811.1 _ 28 (Or.inr (by decide)) (Or.inr (by decide)) (Or.inr (by decide)) (Or.inr (by decide)) (Or.inr (by decide)) (Or.inr (by decide)) (Or.inr (by decide)) (Or.inr (by decide))).trans pf1
    have pf2 := (yz23811.1 _ 29 (Or.inr (by decide)) (Or.inr (by decide)) (Or.inr (by decide)) (Or.inr (by decide)) (Or.inr (by decide)) (Or.inr (by decide)) (Or.inr (by decide)) (Or.inr (by decide))).trans pf2
    have pf6 := (yz23811.1 _ 12 (Or.inr (by decide)) (Or.inr (by decide)) (Or.inr (by decide)) (Or.inr (by decide)) (Or.inl (by rw [gx0]; decide)) (Or.inr (by decide)) (Or.inr (by decide)) (Or.inr (by decide))).trans pf6
    have pf7 := (yz23811.1 _ 7 (Or.inr (by decide)) (Or.inr (by decide)) (Or.inr (by decide)) (Or.inr (by decide)) (Or.inr (by decide)) (Or.inr (by decide)) (Or.inr (by decide)) (Or.inr (by decide))).trans pf7
    have pf8 := (yz23811.1 _ 8 (Or.inl (by rw [gx0]; decide)) (Or.inr (by decide)) (Or.inr (by decide)) (Or.inr (by decide)) (Or.inr (by decide)) (Or.inr (by decide)) (Or.inr (by decide)) (Or.inr (by decide))).trans pf8
    have pf9 := (yz23811.1 _ 9 (Or.inr (by decide)) (Or.inl (by rw [gx0]; decide)) (Or.inr (by decide)) (Or.inr (by decide)) (Or.inr (by decide)) (Or.inr (by decide)) (Or.inr (by decide)) (Or.inr (by decide))).trans pf9
    have pf10 := (yz23811.1 _ 10 (Or.inr (by decide)) (Or.inr (by decide)) (Or.inl (by rw [gx0]; decide)) (Or.inr (by decide)) (Or.inr (by decide)) (Or.inr (by decide)) (Or.inr (by decide)) (Or.inr (by decide))).trans pf10
    have pf11 := (yz23811.1 _ 0 (Or.inr (by decide)) (Or.inr (by decide)) (Or.inr (by decide)) (Or.inr (by decide)) (Or.inr (by decide)) (Or.inr (by decide)) (Or.inr (by decide)) (Or.inr (by decide))).trans pf11
    have hfr : (∀ b j : Nat, (tag b ≠ 44 ∨ j ≠ 7) → (tag b ≠ 44 ∨ j ≠ 12) → (tag b ≠ 46 ∨ j ≠ 8) → (tag b ≠ 46 ∨ j ≠ 9) → (tag b ≠ 46 ∨ j ≠ 10) → (tag b ≠ 46 ∨ j ≠ 11) → (tag b ≠ 46 ∨ j ≠ 12) → (tag b ≠ 46 ∨ j ≠ 13) → (tag b ≠ 46 ∨ j ≠ 14) → (tag b ≠ 46 ∨ j ≠ 15) → fld F b j = fld Fo b j) ∧ (∀ b j : Nat, tag b ≠ 29 → tag b ≠ 34 → tag b ≠ 35 → tag b ≠ 36 → elm F b j = elm Fo b j) := ⟨fun b j n44_7 n44_12 n46_8 n46_9 n46_10 n46_11 n46_12 n46_13 n46_14 n46_15 => (yz23811.1 b j n46_8 n46_9 n46_10 n46_11 n46_12 n46_13 n46_14 n46_15).trans (hfr.1 b j n44_7 n44_12 n46_8 n46_9 n46_10 n46_11 n46_12 n46_13 n46_14 n46_15), fun b j a29 a34 a35 a36 => (yz23811.2 b j ).trans (hfr.2 b j a29 a34 a35 a36)⟩
    have hrel := msr_of (fun j => yz23811.2 _ j ) (fun j => yz23811.2 _ j ) hrel
    have hstk := STK.tr hstk stz23811
    have hspt := SPT.tr hspt ptz23811
    refine lv_istore (lv' := [(6, .int z23811), (5, .int z23810), (4, .int z23809), (3, .int 0), (1, .long z23705), (0, .ref p0)]) hx hb dX13_readStone_109 hl (by decide) rfl (fun ls hl => ?_)
    refine lv_aload_n hx hb dX13_readStone_111 rfl (lv_at hl 5 rfl) ?_
    refine m_ldcKw X 67 rfl dX13_readStone_112 ?_
    refine lv_iconst (v := 1) hx hb dX13_readStone_115 (by decide) ?_
    refine lv_bipush (v := 99) hx hb dX13_readStone_116 (by decide) ?_
    refine t_cVi (n := 3) (C := RX13) (T := TX13) (N := 37) (As := [.ref (G.2 (100 + 67)), .int 1, .int 99]) (rest := []) X hT (km66_X13_readPart l G tag L F hT.2.2.2 p0 67 1 99 x0 x1 x2 soz23811 spz23811 faz23811 m0 g0 (by decide) (by decide) (by decide) mx0 gx0 pf0 mx1 gx1 pf1 mx2 gx2 pf2 (by omega) qsoz23811 (by omega) qspz23811 (by omega) qfaz23811 hkf) m0 g0 rfl rfl qw_552 qw_553 qw_554 qw_5 qw_555 ⟨rfl, by decide +kernel, by decide +kernel, by decide +kernel⟩ ⟨Nat.le_of_ble_eq_true rfl, Nat.le_of_ble_eq_true rfl⟩ hl rfl rfl (Nat.le_of_ble_eq_true rfl) dX13_readStone_118 ⟨Nat.le_of_ble_eq_true rfl, Nat.le_of_ble_eq_true rfl⟩ (fun z23812 F H locs hT hz23812 => ?_)
    obtain ⟨hz23812, yz23812, ⟨soz23812, spz23812, faz23812, qsoz23812, qspz23812, qfaz23812, rsoz23812, rspz23812, rfaz23812, stz23812, ptz23812, hkf⟩⟩ := hz23812
    have pf0 := (yz23812.1 _ 4 (Or.inr (by decide)) (Or.inr (by decide)) (Or.inr (by decide)) (Or.inr (by decide)) (Or.inr (by decide)) (Or.inr (by decide)) (Or.inr (by decide)) (Or.inr (by decide))).trans pf0
    have pf1 := (yz23812.1 _ 28 (Or.inr (by decide)) (Or.inr (by decide)) (Or.inr (by decide)) (Or.inr (by decide)) (Or.inr (by decide)) (Or.inr (by decide)) (Or.inr (by decide)) (Or.inr (by decide))).trans pf1
    have pf2 := (yz23812.1 _ 29 (Or.inr (by decide)) (Or.inr (by decide)) (Or.inr (by decide)) (Or.inr (by decide)) (Or.inr (by decide)) (Or.inr (by decide)) (Or.inr (by decide)) (Or.inr (by decide))).trans pf2
    have pf6 := (yz23812.1 _ 12 (Or.inr (by decide)) (Or.inr (by decide)) (Or.inr (by decide)) (Or.inr (by decide)) (Or.inl (by rw [gx0]; decide)) (Or.inr (by decide)) (Or.inr (by decide)) (Or.inr (by decide))).trans pf6
    have pf7 := (yz23812.1 _ 7 (Or.inr (by decide)) (Or.inr (by decide)) (Or.inr (by decide)) (Or.inr (by decide)) (Or.inr (by decide)) (Or.inr (by decide)) (Or.inr (by decide)) (Or.inr (by decide))).trans pf7
    have pf8 := (yz23812.1 _ 8 (Or.inl (by rw [gx0]; decide)) (Or.inr (by decide)) (Or.inr (by decide)) (Or.inr (by decide)) (Or.inr (by decide)) (Or.inr (by decide)) (Or.inr (by decide)) (Or.inr (by decide))).trans pf8
    have pf9 := (yz23812.1 _ 9 (Or.inr (by decide)) (Or.inl (by rw [gx0]; decide)) (Or.inr (by decide)) (Or.inr (by decide)) (Or.inr (by decide)) (Or.inr (by decide)) (Or.inr (by decide)) (Or.inr (by decide))).trans pf9
    have pf10 := (yz23812.1 _ 10 (Or.inr (by decide)) (Or.inr (by decide)) (Or.inl (by rw [gx0]; decide)) (Or.inr (by decide)) (Or.inr (by decide)) (Or.inr (by decide)) (Or.inr (by decide)) (Or.inr (by decide))).trans pf10
    have pf11 := (yz23812.1 _ 0 (Or.inr (by decide)) (Or.inr (by decide)) (Or.inr (by decide)) (Or.inr (by decide)) (Or.inr (by decide)) (Or.inr (by decide)) (Or.inr (by decide)) (Or.inr (by decide))).trans pf11
    have hfr : (∀ b j : Nat, (tag b ≠ 44 ∨ j ≠ 7) → (tag b ≠ 44 ∨ j ≠ 12) → (tag b ≠ 46 ∨ j ≠ 8) → (tag b ≠ 46 ∨ j ≠ 9) → (tag b ≠ 46 ∨ j ≠ 10) → (tag b ≠ 46 ∨ j ≠ 11) → (tag b ≠ 46 ∨ j ≠ 12) → (tag b ≠ 46 ∨ j ≠ 13) → (tag b ≠ 46 ∨ j ≠ 14) → (tag b ≠ 46 ∨ j ≠ 15) → fld F b j = fld Fo b j) ∧ (∀ b j : Nat, tag b ≠ 29 → tag b ≠ 34 → tag b ≠ 35 → tag b ≠ 36 → elm F b j = elm Fo b j) := ⟨fun b j n44_7 n44_12 n46_8 n46_9 n46_10 n46_11 n46_12 n46_13 n46_14 n46_15 => (yz23812.1 b j n46_8 n46_9 n46_10 n46_11 n46_12 n46_13 n46_14 n46_15).trans (hfr.1 b j n44_7 n44_12 n46_8 n46_9 n46_10 n46_11 n46_12 n46_13 n46_14 n46_15), fun b j a29 a34 a35 a36 => (yz23812.2 b j ).trans (hfr.2 b j a29 a34 a35 a36)⟩
    have hrel := msr_of (fun j => yz23812.2 _ j ) (fun j => yz23812.2 _ j ) hrel
    have hstk := STK.tr hstk stz23812
    have hspt := SPT.tr hspt ptz23812
    refine lv_istore (lv' := [(7, .int z23812), (6, .int z23811), (5, .int z23810), (4, .int z23809), (3, .int 0), (1, .long z23705), (0, .ref p0)]) hx hb dX13_readStone_121 hl (by decide) rfl (fun ls hl => ?_)
    refine lv_aload_n hx hb dX13_readStone_123 rfl (lv_at hl 6 rfl) ?_
    refine t_get (C := RX13) (T := TX13) (N := 37) X hT m0 g0 rfl rfl 9 (by decide) qw_478 inlX13 rfl dX13_readStone_124 (fun v23813 hv23813 ov23813 => ?_)
    obtain rfl : v23813 = .int soz23812 := hv23813.symm.trans qsoz23812
    refine lv_iconst (v := 5) hx hb dX13_readStone_127 (by decide) ?_
    refine lv_icmp_ne (tgt := 132) hx hb dX13_readStone_128 (by decide) (fun c23814 => ?_) (fun c23814 => ?_)
    · have w23815 := cv_ne (rfl : soz23812.toInt = soz23812.toInt) (by decide : (5 : Int32).toInt = 5) c23814
      have w23816 := (fun h9 => (fun h9 => (fun h9 => (fun h9 => (fun h9 => (fun h9 => pxz23703_0 (fun e9 => h9 (stz23705 e9))) (fun e9 => h9 (stz23808 e9))) (fun e9 => h9 (stz23809 e9))) (fun e9 => h9 (stz23810 e9))) (fun e9 => h9 (stz23811 e9))) (fun e9 => h9 (stz23812 e9))) (by omega)
      have w23817 := (fun h9 => (fun h9 => (fun h9 => (fun h9 => (fun h9 => (fun h9 => pxz23703_0 (fun e9 => h9 (stz23705 e9))) (fun e9 => h9 (stz23808 e9))) (fun e9 => h9 (stz23809 e9))) (fun e9 => h9 (stz23810 e9))) (fun e9 => h9 (stz23811 e9))) (fun e9 => h9 (stz23812 e9))) (by omega)
      refine lv_aload_n hx hb dX13_readStone_132 rfl (lv_at hl 6 rfl) ?_
      refine t_get (C := RX13) (T := TX13) (N := 37) X hT m0 g0 rfl rfl 4 (by decide) qw_477 inlX13 rfl dX13_readStone_133 (fun v23818 hv23818 ov23818 => ?_)
      obtain rfl : v23818 = .ref x0 := hv23818.symm.trans pf0
      refine t_getN (C := RX12) (T := TX12) (N := 31) X hT mx0 gx0 rfl rfl 7 (by decide) (List.mem_of_getElem? (i := 11) rfl) inlX12 rfl dX13_readStone_136 (fun v23819 hv23819 ov23819 => ?_)
      obtain rfl : v23819 = .int x7 := hv23819.symm.trans pf7
      refine lv_istore (lv' := [(8, .int x7), (7, .int z23812), (6, .int z23811), (5, .int z23810), (4, .int z23809), (3, .int 0), (1, .long z23705), (0, .ref p0)]) hx hb dX13_readStone_139 hl (by decide) rfl (fun ls hl => ?_)
      refine lv_aload_n hx hb dX13_readStone_141 rfl (lv_at hl 7 rfl) ?_
      refine lv_lload_n hx hb dX13_readStone_142 rfl (lv_at hl 6 rfl) ?_
      refine lv_iconst (v := 0) hx hb dX13_readStone_143 (by decide) ?_
      refine lv_iload hx hb dX13_readStone_144 (lv_at hl 0 rfl) ?_
      have w23820 : 0 ≤ x6.toInt ∧ x6.toInt ≤ 20 := by omega
      refine t_cVv (n := 3) (C := RX13) (T := TX13) (N := 37) (As := [.long z23705, .int 0, .int x7]) (rest := []) X hT (km67_X13_names l G tag L F hT.2.2.2 p0 z23705 0 x7 x0 x1 x2 x6 m0 g0 (by decide) (by omega) mx0 gx0 pf0 mx1 gx1 pf1 mx2 gx2 pf2 (by omega) pf6 hrel) m0 g0 rfl rfl qw_608 qw_609 qw_610 qw_5 qw_611 ⟨rfl, by decide +kernel, by decide +kernel, by decide +kernel⟩ ⟨Nat.le_of_ble_eq_true rfl, Nat.le_of_ble_eq_true rfl⟩ hl rfl rfl (Nat.le_of_ble_eq_true rfl) dX13_readStone_146 ⟨Nat.le_of_ble_eq_true rfl, Nat.le_of_ble_eq_true rfl⟩ (fun F H locs hT hz23821 => ?_)
      obtain ⟨yz23821, hrel, xz23821_0⟩ := hz23821
      have pf0 := (yz23821.1 _ 4 (Or.inr (by decide))).trans pf0
      have pf1 := (yz23821.1 _ 28 (Or.inr (by decide))).trans pf1
      have pf2 := (yz23821.1 _ 29 (Or.inr (by decide))).trans pf2
      have pf7 := (yz23821.1 _ 7 (Or.inr (by decide))).trans pf7
      have pf8 := (yz23821.1 _ 8 (Or.inr (by decide))).trans pf8
      have pf9 := (yz23821.1 _ 9 (Or.inr (by decide))).trans pf9
      have pf10 := (yz23821.1 _ 10 (Or.inr (by decide))).trans pf10
      have pf11 := (yz23821.1 _ 0 (Or.inr (by decide))).trans pf11
      have qsoz23812 := (yz23821.1 _ 9 (Or.inr (by decide))).trans qsoz23812
      have qspz23812 := (yz23821.1 _ 8 (Or.inr (by decide))).trans qspz23812
      have qfaz23812 := (yz23821.1 _ 13 (Or.inr (by decide))).trans qfaz23812
      have hfr : (∀ b j : Nat, (tag b ≠ 44 ∨ j ≠ 7) → (tag b ≠ 44 ∨ j ≠ 12) → (tag b ≠ 46 ∨ j ≠ 8) → (tag b ≠ 46 ∨ j ≠ 9) → (tag b ≠ 46 ∨ j ≠ 10) → (tag b ≠ 46 ∨ j ≠ 11) → (tag b ≠ 46 ∨ j ≠ 12) → (tag b ≠ 46 ∨ j ≠ 13) → (tag b ≠ 46 ∨ j ≠ 14) → (tag b ≠ 46 ∨ j ≠ 15) → fld F b j = fld Fo b j) ∧ (∀ b j : Nat, tag b ≠ 29 → tag b ≠ 34 → tag b ≠ 35 → tag b ≠ 36 → elm F b j = elm Fo b j) := ⟨fun b j n44_7 n44_12 n46_8 n46_9 n46_10 n46_11 n46_12 n46_13 n46_14 n46_15 => (yz23821.1 b j n44_12).trans (hfr.1 b j n44_7 n44_12 n46_8 n46_9 n46_10 n46_11 n46_12 n46_13 n46_14 n46_15), fun b j a29 a34 a35 a36 => (yz23821.2 b j a34 a35 a36).trans (hfr.2 b j a29 a34 a35 a36)⟩
      obtain ⟨z23822, qz23822, hz23822⟩ := xz23821_0
      have rz23822 : 0 ≤ z23822.toInt ∧ z23822.toInt ≤ 32 := by omega
      refine lv_aload_n hx hb dX13_readStone_149 rfl (lv_at hl 7 rfl) ?_
      refine t_get (C := RX13) (T := TX13) (N := 37) X hT m0 g0 rfl rfl 4 (by decide) qw_477 inlX13 rfl dX13_readStone_150 (fun v23823 hv23823 ov23823 => ?_)
      obtain rfl : v23823 = .ref x0 := hv23823.symm.trans pf0
      refine t_getN (C := RX12) (T := TX12) (N := 31) X hT mx0 gx0 rfl rfl 16 (by decide) (List.mem_of_getElem? (i := 20) rfl) inlX12 rfl dX13_readStone_153 (fun v23824 hv23824 ov23824 => ?_)
      obtain ⟨b23825, rfl, mb23825, gb23825⟩ := okV_r ov23824
      have gb23825 : tag b23825 = 29 := tg_of gb23825
      refine lv_iload hx hb dX13_readStone_156 (lv_at hl 0 rfl) ?_
      refine lv_iload_n hx hb dX13_readStone_158 rfl (lv_at hl 5 rfl) ?_
      refine t_ist X hT mb23825 gb23825 rfl (by omega) (show (-2147483648) ≤ (0 : Int32).toInt ∧ (0 : Int32).toInt ≤ 2147483647 from (rg_all _)) dX13_readStone_159 (fun F H locs hT v23826 h1v23826 h2v23826 => ?_)
      have pf0 := (h2v23826 _ _).trans pf0
      have pf1 := (h2v23826 _ _).trans pf1
      have pf2 := (h2v23826 _ _).trans pf2
      have pf7 := (h2v23826 _ _).trans pf7
      have pf8 := (h2v23826 _ _).trans pf8
      have pf9 := (h2v23826 _ _).trans pf9
      have pf10 := (h2v23826 _ _).trans pf10
      have pf11 := (h2v23826 _ _).trans pf11
      have qsoz23812 := (h2v23826 _ _).trans qsoz23812
      have qspz23812 := (h2v23826 _ _).trans qspz23812
      have qfaz23812 := (h2v23826 _ _).trans qfaz23812
      have qz23822 := (h2v23826 _ _).trans qz23822
      have hv23824 := (h2v23826 _ _).trans hv23824
      have hfr : (∀ b j : Nat, (tag b ≠ 44 ∨ j ≠ 7) → (tag b ≠ 44 ∨ j ≠ 12) → (tag b ≠ 46 ∨ j ≠ 8) → (tag b ≠ 46 ∨ j ≠ 9) → (tag b ≠ 46 ∨ j ≠ 10) → (tag b ≠ 46 ∨ j ≠ 11) → (tag b ≠ 46 ∨ j ≠ 12) → (tag b ≠ 46 ∨ j ≠ 13) → (tag b ≠ 46 ∨ j ≠ 14) → (tag b ≠ 46 ∨ j ≠ 15) → fld F b j = fld Fo b j) ∧ (∀ b j : Nat, tag b ≠ 29 → tag b ≠ 34 → tag b ≠ 35 → tag b ≠ 36 → elm F b j = elm Fo b j) := ⟨fun b j n44_7 n44_12 n46_8 n46_9 n46_10 n46_11 n46_12 n46_13 n46_14 n46_15 => (h2v23826 b j).trans (hfr.1 b j n44_7 n44_12 n46_8 n46_9 n46_10 n46_11 n46_12 n46_13 n46_14 n46_15), fun b j a29 a34 a35 a36 => (h1v23826 b j (Or.inl (at_ne gb23825 a29))).trans (hfr.2 b j a29 a34 a35 a36)⟩
      have hrel := msr_of (fun j => h1v23826 _ j (Or.inl (tne gx1 gb23825 (by decide)))) (fun j => h1v23826 _ j (Or.inl (tne gx2 gb23825 (by decide)))) hrel
      refine lv_aload_n hx hb dX13_readStone_160 rfl (lv_at hl 7 rfl) ?_
      refine t_get (C := RX13) (T := TX13) (N := 37) X hT m0 g0 rfl rfl 4 (by decide) qw_477 inlX13 rfl dX13_readStone_161 (fun v23827 hv23827 ov23827 => ?_)
      obtain rfl : v23827 = .ref x0 := hv23827.symm.trans pf0
      refine t_getN (C := RX12) (T := TX12) (N := 31) X hT mx0 gx0 rfl rfl 17 (by decide) (List.mem_of_getElem? (i := 21) rfl) inlX12 rfl dX13_readStone_164 (fun v23828 hv23828 ov23828 => ?_)
      obtain ⟨b23829, rfl, mb23829, gb23829⟩ := okV_r ov23828
      have gb23829 : tag b23829 = 29 := tg_of gb23829
      refine lv_iload hx hb dX13_readStone_167 (lv_at hl 0 rfl) ?_
      refine lv_iload hx hb dX13_readStone_169 (lv_at hl 4 rfl) ?_
      refine t_ist X hT mb23829 gb23829 rfl (by omega) (show (-2147483648) ≤ (z23809 : Int32).toInt ∧ (z23809 : Int32).toInt ≤ 2147483647 from (rg_all _)) dX13_readStone_171 (fun F H locs hT v23830 h1v23830 h2v23830 => ?_)
      have pf0 := (h2v23830 _ _).trans pf0
      have pf1 := (h2v23830 _ _).trans pf1
      have pf2 := (h2v23830 _ _).trans pf2
      have pf7 := (h2v23830 _ _).trans pf7
      have pf8 := (h2v23830 _ _).trans pf8
      have pf9 := (h2v23830 _ _).trans pf9
      have pf10 := (h2v23830 _ _).trans pf10
      have pf11 := (h2v23830 _ _).trans pf11
      have qsoz23812 := (h2v23830 _ _).trans qsoz23812
      have qspz23812 := (h2v23830 _ _).trans qspz23812
      have qfaz23812 := (h2v23830 _ _).trans qfaz23812
      have qz23822 := (h2v23830 _ _).trans qz23822
      have hv23824 := (h2v23830 _ _).trans hv23824
      have hv23828 := (h2v23830 _ _).trans hv23828
      have hfr : (∀ b j : Nat, (tag b ≠ 44 ∨ j ≠ 7) → (tag b ≠ 44 ∨ j ≠ 12) → (tag b ≠ 46 ∨ j ≠ 8) → (tag b ≠ 46 ∨ j ≠ 9) → (tag b ≠ 46 ∨ j ≠ 10) → (tag b ≠ 46 ∨ j ≠ 11) → (tag b ≠ 46 ∨ j ≠ 12) → (tag b ≠ 46 ∨ j ≠ 13) → (tag b ≠ 46 ∨ j ≠ 14) → (tag b ≠ 46 ∨ j ≠ 15) → fld F b j = fld Fo b j) ∧ (∀ b j : Nat, tag b ≠ 29 → tag b ≠ 34 → tag b ≠ 35 → tag b ≠ 36 → elm F b j = elm Fo b j) := ⟨fun b j n44_7 n44_12 n46_8 n46_9 n46_10 n46_11 n46_12 n46_13 n46_14 n46_15 => (h2v23830 b j).trans (hfr.1 b j n44_7 n44_12 n46_8 n46_9 n46_10 n46_11 n46_12 n46_13 n46_14 n46_15), fun b j a29 a34 a35 a36 => (h1v23830 b j (Or.inl (at_ne gb23829 a29))).trans (hfr.2 b j a29 a34 a35 a36)⟩
      have hrel := msr_of (fun j => h1v23830 _ j (Or.inl (tne gx1 gb23829 (by decide)))) (fun j => h1v23830 _ j (Or.inl (tne gx2 gb23829 (by decide)))) hrel
      refine lv_aload_n hx hb dX13_readStone_172 rfl (lv_at hl 7 rfl) ?_
      refine t_get (C := RX13) (T := TX13) (N := 37) X hT m0 g0 rfl rfl 4 (by decide) qw_477 inlX13 rfl dX13_readStone_173 (fun v23831 hv23831 ov23831 => ?_)
      obtain rfl : v23831 = .ref x0 := hv23831.symm.trans pf0
      refine t_getN (C := RX12) (T := TX12) (N := 31) X hT mx0 gx0 rfl rfl 18 (by decide) (List.mem_of_getElem? (i := 22) rfl) inlX12 rfl dX13_readStone_176 (fun v23832 hv23832 ov23832 => ?_)
      obtain ⟨b23833, rfl, mb23833, gb23833⟩ := okV_r ov23832
      have gb23833 : tag b23833 = 29 := tg_of gb23833
      refine lv_iload hx hb dX13_readStone_179 (lv_at hl 0 rfl) ?_
      refine lv_iload hx hb dX13_readStone_181 (lv_at hl 3 rfl) ?_
      refine t_ist X hT mb23833 gb23833 rfl (by omega) (show (-2147483648) ≤ (z23810 : Int32).toInt ∧ (z23810 : Int32).toInt ≤ 2147483647 from (rg_all _)) dX13_readStone_183 (fun F H locs hT v23834 h1v23834 h2v23834 => ?_)
      have pf0 := (h2v23834 _ _).trans pf0
      have pf1 := (h2v23834 _ _).trans pf1
      have pf2 := (h2v23834 _ _).trans pf2
      have pf7 := (h2v23834 _ _).trans pf7
      have pf8 := (h2v23834 _ _).trans pf8
      have pf9 := (h2v23834 _ _).trans pf9
      have pf10 := (h2v23834 _ _).trans pf10
      have pf11 := (h2v23834 _ _).trans pf11
      have qsoz23812 := (h2v23834 _ _).trans qsoz23812
      have qspz23812 := (h2v23834 _ _).trans qspz23812
      have qfaz23812 := (h2v23834 _ _).trans qfaz23812
      have qz23822 := (h2v23834 _ _).trans qz23822
      have hv23824 := (h2v23834 _ _).trans hv23824
      have hv23828 := (h2v23834 _ _).trans hv23828
      have hv23832 := (h2v23834 _ _).trans hv23832
      have hfr : (∀ b j : Nat, (tag b ≠ 44 ∨ j ≠ 7) → (tag b ≠ 44 ∨ j ≠ 12) → (tag b ≠ 46 ∨ j ≠ 8) → (tag b ≠ 46 ∨ j ≠ 9) → (tag b ≠ 46 ∨ j ≠ 10) → (tag b ≠ 46 ∨ j ≠ 11) → (tag b ≠ 46 ∨ j ≠ 12) → (tag b ≠ 46 ∨ j ≠ 13) → (tag b ≠ 46 ∨ j ≠ 14) → (tag b ≠ 46 ∨ j ≠ 15) → fld F b j = fld Fo b j) ∧ (∀ b j : Nat, tag b ≠ 29 → tag b ≠ 34 → tag b ≠ 35 → tag b ≠ 36 → elm F b j = elm Fo b j) := ⟨fun b j n44_7 n44_12 n46_8 n46_9 n46_10 n46_11 n46_12 n46_13 n46_14 n46_15 => (h2v23834 b j).trans (hfr.1 b j n44_7 n44_12 n46_8 n46_9 n46_10 n46_11 n46_12 n46_13 n46_14 n46_15), fun b j a29 a34 a35 a36 => (h1v23834 b j (Or.inl (at_ne gb23833 a29))).trans (hfr.2 b j a29 a34 a35 a36)⟩
      have hrel := msr_of (fun j => h1v23834 _ j (Or.inl (tne gx1 gb23833 (by decide)))) (fun j => h1v23834 _ j (Or.inl (tne gx2 gb23833 (by decide)))) hrel
      refine lv_aload_n hx hb dX13_readStone_184 rfl (lv_at hl 7 rfl) ?_
      refine t_get (C := RX13) (T := TX13) (N := 37) X hT m0 g0 rfl rfl 4 (by decide) qw_477 inlX13 rfl dX13_readStone_185 (fun v23835 hv23835 ov23835 => ?_)
      obtain rfl : v23835 = .ref x0 := hv23835.symm.trans pf0
      refine t_getN (C := RX12) (T := TX12) (N := 31) X hT mx0 gx0 rfl rfl 19 (by decide) (List.mem_of_getElem? (i := 23) rfl) inlX12 rfl dX13_readStone_188 (fun v23836 hv23836 ov23836 => ?_)
      obtain ⟨b23837, rfl, mb23837, gb23837⟩ := okV_r ov23836
      have gb23837 : tag b23837 = 29 := tg_of gb23837
      refine lv_iload hx hb dX13_readStone_191 (lv_at hl 0 rfl) ?_
      refine lv_iload hx hb dX13_readStone_193 (lv_at hl 2 rfl) ?_
      refine t_ist X hT mb23837 gb23837 rfl (by omega) (show (-2147483648) ≤ (z23811 : Int32).toInt ∧ (z23811 : Int32).toInt ≤ 2147483647 from (rg_all _)) dX13_readStone_195 (fun F H locs hT v23838 h1v23838 h2v23838 => ?_)
      have pf0 := (h2v23838 _ _).trans pf0
      have pf1 := (h2v23838 _ _).trans pf1
      have pf2 := (h2v23838 _ _).trans pf2
      have pf7 := (h2v23838 _ _).trans pf7
      have pf8 := (h2v23838 _ _).trans pf8
      have pf9 := (h2v23838 _ _).trans pf9
      have pf10 := (h2v23838 _ _).trans pf10
      have pf11 := (h2v23838 _ _).trans pf11
      have qsoz23812 := (h2v23838 _ _).trans qsoz23812
      have qspz23812 := (h2v23838 _ _).trans qspz23812
      have qfaz23812 := (h2v23838 _ _).trans qfaz23812
      have qz23822 := (h2v23838 _ _).trans qz23822
      have hv23824 := (h2v23838 _ _).trans hv23824
      have hv23828 := (h2v23838 _ _).trans hv23828
      have hv23832 := (h2v23838 _ _).trans hv23832
      have hv23836 := (h2v23838 _ _).trans hv23836
      have hfr : (∀ b j : Nat, (tag b ≠ 44 ∨ j ≠ 7) → (tag b ≠ 44 ∨ j ≠ 12) → (tag b ≠ 46 ∨ j ≠ 8) → (tag b ≠ 46 ∨ j ≠ 9) → (tag b ≠ 46 ∨ j ≠ 10) → (tag b ≠ 46 ∨ j ≠ 11) → (tag b ≠ 46 ∨ j ≠ 12) → (tag b ≠ 46 ∨ j ≠ 13) → (tag b ≠ 46 ∨ j ≠ 14) → (tag b ≠ 46 ∨ j ≠ 15) → fld F b j = fld Fo b j) ∧ (∀ b j : Nat, tag b ≠ 29 → tag b ≠ 34 → tag b ≠ 35 → tag b ≠ 36 → elm F b j = elm Fo b j) := ⟨fun b j n44_7 n44_12 n46_8 n46_9 n46_10 n46_11 n46_12 n46_13 n46_14 n46_15 => (h2v23838 b j).trans (hfr.1 b j n44_7 n44_12 n46_8 n46_9 n46_10 n46_11 n46_12 n46_13 n46_14 n46_15), fun b j a29 a34 a35 a36 => (h1v23838 b j (Or.inl (at_ne gb23837 a29))).trans (hfr.2 b j a29 a34 a35 a36)⟩
      have hrel := msr_of (fun j => h1v23838 _ j (Or.inl (tne gx1 gb23837 (by decide)))) (fun j => h1v23838 _ j (Or.inl (tne gx2 gb23837 (by decide)))) hrel
      refine lv_aload_n hx hb dX13_readStone_196 rfl (lv_at hl 7 rfl) ?_
      refine t_get (C := RX13) (T := TX13) (N := 37) X hT m0 g0 rfl rfl 4 (by decide) qw_477 inlX13 rfl dX13_readStone_197 (fun v23839 hv23839 ov23839 => ?_)
      obtain rfl : v23839 = .ref x0 := hv23839.symm.trans pf0
      refine t_getN (C := RX12) (T := TX12) (N := 31) X hT mx0 gx0 rfl rfl 20 (by decide) (List.mem_of_getElem? (i := 24) rfl) inlX12 rfl dX13_readStone_200 (fun v23840 hv23840 ov23840 => ?_)
      obtain ⟨b23841, rfl, mb23841, gb23841⟩ := okV_r ov23840
      have gb23841 : tag b23841 = 29 := tg_of gb23841
      refine lv_iload hx hb dX13_readStone_203 (lv_at hl 0 rfl) ?_
      refine lv_iload hx hb dX13_readStone_205 (lv_at hl 1 rfl) ?_
      refine t_ist X hT mb23841 gb23841 rfl (by omega) (show (-2147483648) ≤ (z23812 : Int32).toInt ∧ (z23812 : Int32).toInt ≤ 2147483647 from (rg_all _)) dX13_readStone_207 (fun F H locs hT v23842 h1v23842 h2v23842 => ?_)
      have pf0 := (h2v23842 _ _).trans pf0
      have pf1 := (h2v23842 _ _).trans pf1
      have pf2 := (h2v23842 _ _).trans pf2
      have pf7 := (h2v23842 _ _).trans pf7
      have pf8 := (h2v23842 _ _).trans pf8
      have pf9 := (h2v23842 _ _).trans pf9
      have pf10 := (h2v23842 _ _).trans pf10
      have pf11 := (h2v23842 _ _).trans pf11
      have qsoz23812 := (h2v23842 _ _).trans qsoz23812
      have qspz23812 := (h2v23842 _ _).trans qspz23812
      have qfaz23812 := (h2v23842 _ _).trans qfaz23812
      have qz23822 := (h2v23842 _ _).trans qz23822
      have hv23824 := (h2v23842 _ _).trans hv23824
      have hv23828 := (h2v23842 _ _).trans hv23828
      have hv23832 := (h2v23842 _ _).trans hv23832
      have hv23836 := (h2v23842 _ _).trans hv23836
      have hv23840 := (h2v23842 _ _).trans hv23840
      have hfr : (∀ b j : Nat, (tag b ≠ 44 ∨ j ≠ 7) → (tag b ≠ 44 ∨ j ≠ 12) → (tag b ≠ 46 ∨ j ≠ 8) → (tag b ≠ 46 ∨ j ≠ 9) → (tag b ≠ 46 ∨ j ≠ 10) → (tag b ≠ 46 ∨ j ≠ 11) → (tag b ≠ 46 ∨ j ≠ 12) → (tag b ≠ 46 ∨ j ≠ 13) → (tag b ≠ 46 ∨ j ≠ 14) → (tag b ≠ 46 ∨ j ≠ 15) → fld F b j = fld Fo b j) ∧ (∀ b j : Nat, tag b ≠ 29 → tag b ≠ 34 → tag b ≠ 35 → tag b ≠ 36 → elm F b j = elm Fo b j) := ⟨fun b j n44_7 n44_12 n46_8 n46_9 n46_10 n46_11 n46_12 n46_13 n46_14 n46_15 => (h2v23842 b j).trans (hfr.1 b j n44_7 n44_12 n46_8 n46_9 n46_10 n46_11 n46_12 n46_13 n46_14 n46_15), fun b j a29 a34 a35 a36 => (h1v23842 b j (Or.inl (at_ne gb23841 a29))).trans (hfr.2 b j a29 a34 a35 a36)⟩
      have hrel := msr_of (fun j => h1v23842 _ j (Or.inl (tne gx1 gb23841 (by decide)))) (fun j => h1v23842 _ j (Or.inl (tne gx2 gb23841 (by decide)))) hrel
      refine lv_aload_n hx hb dX13_readStone_208 rfl (lv_at hl 7 rfl) ?_
      refine t_get (C := RX13) (T := TX13) (N := 37) X hT m0 g0 rfl rfl 4 (by decide) qw_477 inlX13 rfl dX13_readStone_209 (fun v23843 hv23843 ov23843 => ?_)
      obtain rfl : v23843 = .ref x0 := hv23843.symm.trans pf0
      refine lv_dup hx hb dX13_readStone_212 rfl ?_
      refine t_getN (C := RX12) (T := TX12) (N := 31) X hT mx0 gx0 rfl rfl 7 (by decide) (List.mem_of_getElem? (i := 11) rfl) inlX12 rfl dX13_readStone_213 (fun v23844 hv23844 ov23844 => ?_)
      obtain rfl : v23844 = .int x7 := hv23844.symm.trans pf7
      refine lv_iconst (v := 1) hx hb dX13_readStone_216 (by decide) ?_
      refine lv_iadd hx hb dX13_readStone_217 ?_
      refine lv_topi (fun z23845 ez23845 => ?_)
      have hz23845 : z23845.toInt = x7.toInt + 1 := ar_add ez23845 (rfl : x7.toInt = x7.toInt) (by decide : (1 : Int32).toInt = 1) (by omega) (by omega)
      have rz23845 : 1 ≤ z23845.toInt ∧ z23845.toInt ≤ 4 := by omega
      refine t_putN (C := RX12) (T := TX12) (N := 31) (v := .int z23845) X hT mx0 gx0 rfl tyX12 tyX12_ok nmX12 rfl 7 (by decide) (List.mem_of_getElem? (i := 11) rfl) inlX12 rfl (by first | rfl | decide) (by first | rfl | decide) rfl (⟨_, rfl, (show 0 ≤ (z23845 : Int32).toInt from (by omega)), (show (z23845 : Int32).toInt ≤ 4 from (by omega))⟩) dX13_readStone_218 (fun F H locs hT v23846 h1v23846 h2v23846 => ?_)
      have pf0 := (h1v23846 _ _ (Or.inr (by decide))).trans pf0
      have pf1 := (h1v23846 _ _ (Or.inr (by decide))).trans pf1
      have pf2 := (h1v23846 _ _ (Or.inr (by decide))).trans pf2
      have pf8 := (h1v23846 _ _ (Or.inr (by decide))).trans pf8
      have pf9 := (h1v23846 _ _ (Or.inr (by decide))).trans pf9
      have pf10 := (h1v23846 _ _ (Or.inr (by decide))).trans pf10
      have pf11 := (h1v23846 _ _ (Or.inr (by decide))).trans pf11
      have qsoz23812 := (h1v23846 _ _ (Or.inr (by decide))).trans qsoz23812
      have qspz23812 := (h1v23846 _ _ (Or.inr (by decide))).trans qspz23812
      have qfaz23812 := (h1v23846 _ _ (Or.inr (by decide))).trans qfaz23812
      have qz23822 := (h1v23846 _ _ (Or.inr (by decide))).trans qz23822
      have hv23824 := (h1v23846 _ _ (Or.inr (by decide))).trans hv23824
      have hv23828 := (h1v23846 _ _ (Or.inr (by decide))).trans hv23828
      have hv23832 := (h1v23846 _ _ (Or.inr (by decide))).trans hv23832
      have hv23836 := (h1v23846 _ _ (Or.inr (by decide))).trans hv23836
      have hv23840 := (h1v23846 _ _ (Or.inr (by decide))).trans hv23840
      have v23842 := (h2v23846 _ _).trans v23842
      have hfr : (∀ b j : Nat, (tag b ≠ 44 ∨ j ≠ 7) → (tag b ≠ 44 ∨ j ≠ 12) → (tag b ≠ 46 ∨ j ≠ 8) → (tag b ≠ 46 ∨ j ≠ 9) → (tag b ≠ 46 ∨ j ≠ 10) → (tag b ≠ 46 ∨ j ≠ 11) → (tag b ≠ 46 ∨ j ≠ 12) → (tag b ≠ 46 ∨ j ≠ 13) → (tag b ≠ 46 ∨ j ≠ 14) → (tag b ≠ 46 ∨ j ≠ 15) → fld F b j = fld Fo b j) ∧ (∀ b j : Nat, tag b ≠ 29 → tag b ≠ 34 → tag b ≠ 35 → tag b ≠ 36 → elm F b j = elm Fo b j) := ⟨fun b j n44_7 n44_12 n46_8 n46_9 n46_10 n46_11 n46_12 n46_13 n46_14 n46_15 => (h1v23846 b j (fr_ne gx0 n44_7)).trans (hfr.1 b j n44_7 n44_12 n46_8 n46_9 n46_10 n46_11 n46_12 n46_13 n46_14 n46_15), fun b j a29 a34 a35 a36 => (h2v23846 b j).trans (hfr.2 b j a29 a34 a35 a36)⟩
      have hrel := msr_of (fun j => h2v23846 _ j) (fun j => h2v23846 _ j) hrel
      have hpl : PLr z23822 z23845 x8 x9 x10 x11 := ⟨by omega, fun _ => by omega⟩
      exact t_vret hQ X hT ⟨hfr, hrel, ⟨soz23812, spz23812, faz23812, qsoz23812, qspz23812, qfaz23812, (by omega), (by omega), (by omega), hstk, hspt, hkf⟩, ⟨z23822, z23845, x8, x9, x10, x11, qz23822, v23846, pf8, pf9, pf10, pf11, (by omega), (by omega), (by omega), (by omega), (by omega), (by omega), hpl⟩⟩ (Nat.le_of_ble_eq_true rfl) (Nat.le_of_ble_eq_true rfl) dX13_readStone_221
    · have w23847 := cv_eq (rfl : soz23812.toInt = soz23812.toInt) (by decide : (5 : Int32).toInt = 5) c23814
      exact t_vret hQ X hT ⟨hfr, hrel, ⟨soz23812, spz23812, faz23812, qsoz23812, qspz23812, qfaz23812, (by omega), (by omega), (by omega), hstk, hspt, hkf⟩, ⟨x6, x7, x8, x9, x10, x11, pf6, pf7, pf8, pf9, pf10, pf11, (by omega), (by omega), (by omega), (by omega), (by omega), (by omega), hpl⟩⟩ (Nat.le_of_ble_eq_true rfl) (Nat.le_of_ble_eq_true rfl) dX13_readStone_131
