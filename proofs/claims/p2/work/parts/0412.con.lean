set_option maxHeartbeats 4000000 in
set_option maxRecDepth 100000 in
theorem km68_X13_readStone (l : Launch) (G : KG) (tag : Nat → Nat) (L : List Nat) (Fo : Nat → va_E) (ho : okT G ttC tag L Fo) (p0 : Nat) (x0 : Nat) (x1 : Nat) (x2 : Nat) (x3 : Int32) (x4 : Int32) (x5 : Int32) (x6 : Int32) (x7 : Int32) (x8 : Int32) (x9 : Int32) (x10 : Int32) (x11 : Int32) (m0 : p0 ∈ L) (g0 : tag p0 = 46) (mx0 : x0 ∈ L) (gx0 : tag x0 = 44) (pf0 : fld Fo p0 4 = .ref x0) (mx1 : x1 ∈ L) (gx1 : tag x1 = 35) (pf1 : fld Fo x0 28 = .ref x1) (mx2 : x2 ∈ L) (gx2 : tag x2 = 36) (pf2 : fld Fo x0 29 = .ref x2) (hx3 : 0 ≤ x3.toInt ∧ x3.toInt ≤ 5) (pf3 : fld Fo p0 9 = .int x3) (hx4 : 0 ≤ x4.toInt ∧ x4.toInt ≤ 1000) (pf4 : fld Fo p0 8 = .int x4) (hx5 : 0 ≤ x5.toInt ∧ x5.toInt ≤ 7) (pf5 : fld Fo p0 13 = .int x5) (hx6 : 0 ≤ x6.toInt ∧ x6.toInt ≤ 32) (pf6 : fld Fo x0 12 = .int x6) (hx7 : 0 ≤ x7.toInt ∧ x7.toInt ≤ 4) (pf7 : fld Fo x0 7 = .int x7) (hx8 : 0 ≤ x8.toInt ∧ x8.toInt ≤ 4) (pf8 : fld Fo x0 8 = .int x8) (hx9 : 0 ≤ x9.toInt ∧ x9.toInt ≤ 6) (pf9 : fld Fo x0 9 = .int x9) (hx10 : 0 ≤ x10.toInt ∧ x10.toInt ≤ 6) (pf10 : fld Fo x0 10 = .int x10) (hx11 : 0 ≤ x11.toInt ∧ x11.toInt ≤ 12) (pf11 : fld Fo x0 0 = .int x11) (hrel : MSR Fo x1 x2) (hkf : KF x3 x5) (hpl : PLr x6 x7 x8 x9 x10 x11) : TMv l yX13_readStone cX13_readStone 9 { frames := 8, cells := 0, slots := 0, locals := 173 } G ttC tag L Fo [.ref p0] (fun F1 => ((∀ b j : Nat, (tag b ≠ 44 ∨ j ≠ 7) → (tag b ≠ 44 ∨ j ≠ 12) → (tag b ≠ 46 ∨ j ≠ 8) → (tag b ≠ 46 ∨ j ≠ 9) → (tag b ≠ 46 ∨ j ≠ 10) → (tag b ≠ 46 ∨ j ≠ 11) → (tag b ≠ 46 ∨ j ≠ 12) → (tag b ≠ 46 ∨ j ≠ 13) → (tag b ≠ 46 ∨ j ≠ 14) → (tag b ≠ 46 ∨ j ≠ 15) → fld F1 b j = fld Fo b j) ∧ (∀ b j : Nat, tag b ≠ 29 → tag b ≠ 34 → tag b ≠ 35 → tag b ≠ 36 → elm F1 b j = elm Fo b j)) ∧ (MSR F1 x1 x2) ∧ (∃ so sp fa : Int32, fld F1 p0 9 = .int so ∧ fld F1 p0 8 = .int sp ∧ fld F1 p0 13 = .int fa ∧ (0 ≤ so.toInt ∧ so.toInt ≤ 5) ∧ (0 ≤ sp.toInt ∧ sp.toInt ≤ 1000) ∧ (0 ≤ fa.toInt ∧ fa.toInt ≤ 7) ∧ STK x3 so ∧ SPT x3 x4 so sp ∧ KF so fa) ∧ (∃ na st ho he wa wi : Int32, fld F1 x0 12 = .int na ∧ fld F1 x0 7 = .int st ∧ fld F1 x0 8 = .int ho ∧ fld F1 x0 9 = .int he ∧ fld F1 x0 10 = .int wa ∧ fld F1 x0 0 = .int wi ∧ (0 ≤ na.toInt ∧ na.toInt ≤ 32) ∧ (0 ≤ st.toInt ∧ st.toInt ≤ 4) ∧ (0 ≤ ho.toInt ∧ ho.toInt ≤ 4) ∧ (0 ≤ he.toInt ∧ he.toInt ≤ 6) ∧ (0 ≤ wa.toInt ∧ wa.toInt ≤ 6) ∧ (0 ≤ wi.toInt ∧ wi.toInt ≤ 12) ∧ PLr na st ho he wa wi)) := by
  refine t_bodyv (y := yX13_readStone) (cd := cX13_readStone) (mL := 9) (rm := { frames := 8, cells := 0, slots := 0, locals := 173 }) (av := [.ref p0]) (by decide) (Nat.le_of_ble_eq_true rfl) ho ?_
  intro p e s m args below meth c ls A Q hQ X hT hl
  have hx := X.1.1
  have hb := X.1.2.1
  have hl : lv_has ls 9 [(0, .ref p0)] := hl
  obtain ⟨F, hFo⟩ : ∃ F : Nat → va_E, F = Fo := ⟨_, rfl⟩
  rw [← hFo] at hT pf0 pf1 pf2 pf3 pf4 pf5 pf6 pf7 pf8 pf9 pf10 pf11 hrel
  have hfr : (∀ b j : Nat, (tag b ≠ 44 ∨ j ≠ 7) → (tag b ≠ 44 ∨ j ≠ 12) → (tag b ≠ 46 ∨ j ≠ 8) → (tag b ≠ 46 ∨ j ≠ 9) → (tag b ≠ 46 ∨ j ≠ 10) → (tag b ≠ 46 ∨ j ≠ 11) → (tag b ≠ 46 ∨ j ≠ 12) → (tag b ≠ 46 ∨ j ≠ 13) → (tag b ≠ 46 ∨ j ≠ 14) → (tag b ≠ 46 ∨ j ≠ 15) → fld F b j = fld Fo b j) ∧ (∀ b j : Nat, tag b ≠ 29 → tag b ≠ 34 → tag b ≠ 35 → tag b ≠ 36 → elm F b j = elm Fo b j) := by
    rw [hFo]
    exact ⟨by intros; rfl, by intros; rfl⟩
  have hstk : STK x3 x3 := STK.rf
  have hspt : SPT x3 x4 x3 x4 := SPT.rf
  have hpu := hpl
  unfold PLr at hpu
  refine lv_aload_n hx hb dX13_readStone_0 rfl (lv_at hl 0 rfl) ?_
  refine lv_aload_n hx hb dX13_readStone_1 rfl (lv_at hl 0 rfl) ?_
  refine t_get (C := RX13) (T := TX13) (N := 37) X hT m0 g0 rfl rfl 4 (by decide) qw_477 inlX13 rfl dX13_readStone_2 (fun v23878 hv23878 ov23878 => ?_)
  obtain rfl : v23878 = .ref x0 := hv23878.symm.trans pf0
  refine t_getN (C := RX12) (T := TX12) (N := 31) X hT mx0 gx0 rfl rfl 7 (by decide) (List.mem_of_getElem? (i := 11) rfl) inlX12 rfl dX13_readStone_5 (fun v23879 hv23879 ov23879 => ?_)
  obtain rfl : v23879 = .int x7 := hv23879.symm.trans pf7
  refine lv_iconst (v := 4) hx hb dX13_readStone_8 (by decide) ?_
  refine t_cVv (n := 2) (C := RX13) (T := TX13) (N := 37) (As := [.int x7, .int 4]) (rest := []) X hT (km15_X13_begins l G tag L F hT.2.2.2 p0 x7 4 x0 x1 x2 x3 x4 x5 x11 m0 g0 mx0 gx0 pf0 mx1 gx1 pf1 mx2 gx2 pf2 (by omega) pf3 (by omega) pf4 (by omega) pf5 (by omega) pf11 hkf) m0 g0 rfl rfl qw_575 qw_576 qw_577 qw_5 qw_578 ⟨rfl, by decide +kernel, by decide +kernel, by decide +kernel⟩ ⟨Nat.le_of_ble_eq_true rfl, Nat.le_of_ble_eq_true rfl⟩ hl rfl rfl (Nat.le_of_ble_eq_true rfl) dX13_readStone_9 ⟨Nat.le_of_ble_eq_true rfl, Nat.le_of_ble_eq_true rfl⟩ (fun F H locs hT hz23880 => ?_)
  obtain ⟨yz23880, ⟨soz23880, spz23880, faz23880, qsoz23880, qspz23880, qfaz23880, rsoz23880, rspz23880, rfaz23880, stz23880, ptz23880, hkf, pxz23880_0⟩⟩ := hz23880
  have pf0 := (yz23880.1 _ 4 (Or.inr (by decide)) (Or.inr (by decide)) (Or.inr (by decide)) (Or.inr (by decide)) (Or.inr (by decide)) (Or.inr (by decide)) (Or.inr (by decide)) (Or.inr (by decide))).trans pf0
  have pf1 := (yz23880.1 _ 28 (Or.inr (by decide)) (Or.inr (by decide)) (Or.inr (by decide)) (Or.inr (by decide)) (Or.inr (by decide)) (Or.inr (by decide)) (Or.inr (by decide)) (Or.inr (by decide))).trans pf1
  have pf2 := (yz23880.1 _ 29 (Or.inr (by decide)) (Or.inr (by decide)) (Or.inr (by decide)) (Or.inr (by decide)) (Or.inr (by decide)) (Or.inr (by decide)) (Or.inr (by decide)) (Or.inr (by decide))).trans pf2
  have pf6 := (yz23880.1 _ 12 (Or.inr (by decide)) (Or.inr (by decide)) (Or.inr (by decide)) (Or.inr (by decide)) (Or.inl (by rw [gx0]; decide)) (Or.inr (by decide)) (Or.inr (by decide)) (Or.inr (by decide))).trans pf6
  have pf7 := (yz23880.1 _ 7 (Or.inr (by decide)) (Or.inr (by decide)) (Or.inr (by decide)) (Or.inr (by decide)) (Or.inr (by decide)) (Or.inr (by decide)) (Or.inr (by decide)) (Or.inr (by decide))).trans pf7
  have pf8 := (yz23880.1 _ 8 (Or.inl (by rw [gx0]; decide)) (Or.inr (by decide)) (Or.inr (by decide)) (Or.inr (by decide)) (Or.inr (by decide)) (Or.inr (by decide)) (Or.inr (by decide)) (Or.inr (by decide))).trans pf8
  have pf9 := (yz23880.1 _ 9 (Or.inr (by decide)) (Or.inl (by rw [gx0]; decide)) (Or.inr (by decide)) (Or.inr (by decide)) (Or.inr (by decide)) (Or.inr (by decide)) (Or.inr (by decide)) (Or.inr (by decide))).trans pf9
  have pf10 := (yz23880.1 _ 10 (Or.inr (by decide)) (Or.inr (by decide)) (Or.inl (by rw [gx0]; decide)) (Or.inr (by decide)) (Or.inr (by decide)) (Or.inr (by decide)) (Or.inr (by decide)) (Or.inr (by decide))).trans pf10
  have pf11 := (yz23880.1 _ 0 (Or.inr (by decide)) (Or.inr (by decide)) (Or.inr (by decide)) (Or.inr (by decide)) (Or.inr (by decide)) (Or.inr (by decide)) (Or.inr (by decide)) (Or.inr (by decide))).trans pf11
  have hfr : (∀ b j : Nat, (tag b ≠ 44 ∨ j ≠ 7) → (tag b ≠ 44 ∨ j ≠ 12) → (tag b ≠ 46 ∨ j ≠ 8) → (tag b ≠ 46 ∨ j ≠ 9) → (tag b ≠ 46 ∨ j ≠ 10) → (tag b ≠ 46 ∨ j ≠ 11) → (tag b ≠ 46 ∨ j ≠ 12) → (tag b ≠ 46 ∨ j ≠ 13) → (tag b ≠ 46 ∨ j ≠ 14) → (tag b ≠ 46 ∨ j ≠ 15) → fld F b j = fld Fo b j) ∧ (∀ b j : Nat, tag b ≠ 29 → tag b ≠ 34 → tag b ≠ 35 → tag b ≠ 36 → elm F b j = elm Fo b j) := ⟨fun b j n44_7 n44_12 n46_8 n46_9 n46_10 n46_11 n46_12 n46_13 n46_14 n46_15 => (yz23880.1 b j n46_8 n46_9 n46_10 n46_11 n46_12 n46_13 n46_14 n46_15).trans (hfr.1 b j n44_7 n44_12 n46_8 n46_9 n46_10 n46_11 n46_12 n46_13 n46_14 n46_15), fun b j a29 a34 a35 a36 => (yz23880.2 b j ).trans (hfr.2 b j a29 a34 a35 a36)⟩
  have hrel := msr_of (fun j => yz23880.2 _ j ) (fun j => yz23880.2 _ j ) hrel
  have hstk := STK.tr hstk stz23880
  have hspt := SPT.tr hspt ptz23880
  have k23881 : (4 : Int32).toInt = 4 := by decide
  refine lv_aload_n hx hb dX13_readStone_12 rfl (lv_at hl 0 rfl) ?_
  refine t_cVl (n := 0) (C := RX13) (T := TX13) (N := 37) (As := []) (rest := []) X hT (km26_X13_readFresh l G tag L F hT.2.2.2 p0 x0 x1 x2 soz23880 spz23880 faz23880 m0 g0 mx0 gx0 pf0 mx1 gx1 pf1 mx2 gx2 pf2 (by omega) qsoz23880 (by omega) qspz23880 (by omega) qfaz23880 hkf) m0 g0 rfl rfl qw_595 qw_596 qw_597 qw_5 qw_598 ⟨rfl, by decide +kernel, by decide +kernel, by decide +kernel⟩ ⟨Nat.le_of_ble_eq_true rfl, Nat.le_of_ble_eq_true rfl⟩ hl rfl rfl (Nat.le_of_ble_eq_true rfl) dX13_readStone_13 ⟨Nat.le_of_ble_eq_true rfl, Nat.le_of_ble_eq_true rfl⟩ (fun z23882 F H locs hT hz23882 => ?_)
  obtain ⟨yz23882, ⟨soz23882, spz23882, faz23882, qsoz23882, qspz23882, qfaz23882, rsoz23882, rspz23882, rfaz23882, stz23882, ptz23882, hkf⟩⟩ := hz23882
  have pf0 := (yz23882.1 _ 4 (Or.inr (by decide)) (Or.inr (by decide)) (Or.inr (by decide)) (Or.inr (by decide)) (Or.inr (by decide)) (Or.inr (by decide)) (Or.inr (by decide)) (Or.inr (by decide))).trans pf0
  have pf1 := (yz23882.1 _ 28 (Or.inr (by decide)) (Or.inr (by decide)) (Or.inr (by decide)) (Or.inr (by decide)) (Or.inr (by decide)) (Or.inr (by decide)) (Or.inr (by decide)) (Or.inr (by decide))).trans pf1
  have pf2 := (yz23882.1 _ 29 (Or.inr (by decide)) (Or.inr (by decide)) (Or.inr (by decide)) (Or.inr (by decide)) (Or.inr (by decide)) (Or.inr (by decide)) (Or.inr (by decide)) (Or.inr (by decide))).trans pf2
  have pf6 := (yz23882.1 _ 12 (Or.inr (by decide)) (Or.inr (by decide)) (Or.inr (by decide)) (Or.inr (by decide)) (Or.inl (by rw [gx0]; decide)) (Or.inr (by decide)) (Or.inr (by decide)) (Or.inr (by decide))).trans pf6
  have pf7 := (yz23882.1 _ 7 (Or.inr (by decide)) (Or.inr (by decide)) (Or.inr (by decide)) (Or.inr (by decide)) (Or.inr (by decide)) (Or.inr (by decide)) (Or.inr (by decide)) (Or.inr (by decide))).trans pf7
  have pf8 := (yz23882.1 _ 8 (Or.inl (by rw [gx0]; decide)) (Or.inr (by decide)) (Or.inr (by decide)) (Or.inr (by decide)) (Or.inr (by decide)) (Or.inr (by decide)) (Or.inr (by decide)) (Or.inr (by decide))).trans pf8
  have pf9 := (yz23882.1 _ 9 (Or.inr (by decide)) (Or.inl (by rw [gx0]; decide)) (Or.inr (by decide)) (Or.inr (by decide)) (Or.inr (by decide)) (Or.inr (by decide)) (Or.inr (by decide)) (Or.inr (by decide))).trans pf9
  have pf10 := (yz23882.1 _ 10 (Or.inr (by decide)) (Or.inr (by decide)) (Or.inl (by rw [gx0]; decide)) (Or.inr (by decide)) (Or.inr (by decide)) (Or.inr (by decide)) (Or.inr (by decide)) (Or.inr (by decide))).trans pf10
  have pf11 := (yz23882.1 _ 0 (Or.inr (by decide)) (Or.inr (by decide)) (Or.inr (by decide)) (Or.inr (by decide)) (Or.inr (by decide)) (Or.inr (by decide)) (Or.inr (by decide)) (Or.inr (by decide))).trans pf11
  have hfr : (∀ b j : Nat, (tag b ≠ 44 ∨ j ≠ 7) → (tag b ≠ 44 ∨ j ≠ 12) → (tag b ≠ 46 ∨ j ≠ 8) → (tag b ≠ 46 ∨ j ≠ 9) → (tag b ≠ 46 ∨ j ≠ 10) → (tag b ≠ 46 ∨ j ≠ 11) → (tag b ≠ 46 ∨ j ≠ 12) → (tag b ≠ 46 ∨ j ≠ 13) → (tag b ≠ 46 ∨ j ≠ 14) → (tag b ≠ 46 ∨ j ≠ 15) → fld F b j = fld Fo b j) ∧ (∀ b j : Nat, tag b ≠ 29 → tag b ≠ 34 → tag b ≠ 35 → tag b ≠ 36 → elm F b j = elm Fo b j) := ⟨fun b j n44_7 n44_12 n46_8 n46_9 n46_10 n46_11 n46_12 n46_13 n46_14 n46_15 => (yz23882.1 b j n46_8 n46_9 n46_10 n46_11 n46_12 n46_13 n46_14 n46_15).trans (hfr.1 b j n44_7 n44_12 n46_8 n46_9 n46_10 n46_11 n46_12 n46_13 n46_14 n46_15), fun b j a29 a34 a35 a36 => (yz23882.2 b j ).trans (hfr.2 b j a29 a34 a35 a36)⟩
  have hrel := msr_of (fun j => yz23882.2 _ j ) (fun j => yz23882.2 _ j ) hrel
  have hstk := STK.tr hstk stz23882
  have hspt := SPT.tr hspt ptz23882
  refine lv_lstore_n (lv' := [(1, .long z23882), (0, .ref p0)]) hx hb dX13_readStone_16 rfl hl (by decide) rfl (fun ls hl => ?_)
  refine lv_aload_n hx hb dX13_readStone_17 rfl (lv_at hl 1 rfl) ?_
  refine m_ldcKw X 61 rfl dX13_readStone_18 ?_
  refine t_cVi (n := 1) (C := RX13) (T := TX13) (N := 37) (As := [.ref (G.2 (100 + 61))]) (rest := []) X hT (km9_X13_isWord l G tag L F hT.2.2.2 p0 61 soz23882 m0 g0 (by decide) (by omega) qsoz23882) m0 g0 rfl rfl qw_535 qw_536 qw_537 qw_5 qw_538 ⟨rfl, by decide +kernel, by decide +kernel, by decide +kernel⟩ ⟨Nat.le_of_ble_eq_true rfl, Nat.le_of_ble_eq_true rfl⟩ hl rfl rfl (Nat.le_of_ble_eq_true rfl) dX13_readStone_21 ⟨Nat.le_of_ble_eq_true rfl, Nat.le_of_ble_eq_true rfl⟩ (fun z23883 F9 H locs hT hz23883 => ?_)
  obtain ⟨fz23883, hz23883, xz23883_0⟩ := hz23883
  rw [fz23883] at hT
  refine lv_if_eq (tgt := 31) hx hb dX13_readStone_24 (by decide) (fun c23884 => ?_) (fun c23884 => ?_)
  · have w23885 := cv_eq (rfl : z23883.toInt = z23883.toInt) (by decide : (0 : Int32).toInt = 0) c23884
    refine lv_aload_n hx hb dX13_readStone_31 rfl (lv_at hl 1 rfl) ?_
    refine m_ldcKw X 62 rfl dX13_readStone_32 ?_
    refine t_cVi (n := 1) (C := RX13) (T := TX13) (N := 37) (As := [.ref (G.2 (100 + 62))]) (rest := []) X hT (km9_X13_isWord l G tag L F hT.2.2.2 p0 62 soz23882 m0 g0 (by decide) (by omega) qsoz23882) m0 g0 rfl rfl qw_535 qw_536 qw_537 qw_5 qw_538 ⟨rfl, by decide +kernel, by decide +kernel, by decide +kernel⟩ ⟨Nat.le_of_ble_eq_true rfl, Nat.le_of_ble_eq_true rfl⟩ hl rfl rfl (Nat.le_of_ble_eq_true rfl) dX13_readStone_35 ⟨Nat.le_of_ble_eq_true rfl, Nat.le_of_ble_eq_true rfl⟩ (fun z23886 F9 H locs hT hz23886 => ?_)
    obtain ⟨fz23886, hz23886, xz23886_0⟩ := hz23886
    rw [fz23886] at hT
    refine lv_if_eq (tgt := 45) hx hb dX13_readStone_38 (by decide) (fun c23887 => ?_) (fun c23887 => ?_)
    · have w23888 := cv_eq (rfl : z23886.toInt = z23886.toInt) (by decide : (0 : Int32).toInt = 0) c23887
      refine lv_aload_n hx hb dX13_readStone_45 rfl (lv_at hl 1 rfl) ?_
      refine m_ldcKw X 63 rfl dX13_readStone_46 ?_
      refine t_cVi (n := 1) (C := RX13) (T := TX13) (N := 37) (As := [.ref (G.2 (100 + 63))]) (rest := []) X hT (km9_X13_isWord l G tag L F hT.2.2.2 p0 63 soz23882 m0 g0 (by decide) (by omega) qsoz23882) m0 g0 rfl rfl qw_535 qw_536 qw_537 qw_5 qw_538 ⟨rfl, by decide +kernel, by decide +kernel, by decide +kernel⟩ ⟨Nat.le_of_ble_eq_true rfl, Nat.le_of_ble_eq_true rfl⟩ hl rfl rfl (Nat.le_of_ble_eq_true rfl) dX13_readStone_49 ⟨Nat.le_of_ble_eq_true rfl, Nat.le_of_ble_eq_true rfl⟩ (fun z23889 F9 H locs hT hz23889 => ?_)
      obtain ⟨fz23889, hz23889, xz23889_0⟩ := hz23889
      rw [fz23889] at hT
      refine lv_if_eq (tgt := 59) hx hb dX13_readStone_52 (by decide) (fun c23890 => ?_) (fun c23890 => ?_)
      · have w23891 := cv_eq (rfl : z23889.toInt = z23889.toInt) (by decide : (0 : Int32).toInt = 0) c23890
        refine lv_iconst (v := (-1)) hx hb dX13_readStone_59 (by decide) ?_
        refine lv_istore_n (lv' := [(3, .int (-1)), (1, .long z23882), (0, .ref p0)]) hx hb dX13_readStone_60 rfl hl (by decide) rfl (fun ls hl => ?_)
        refine lv_iload_n hx hb dX13_readStone_61 rfl (lv_at hl 0 rfl) ?_
        refine lv_iconst (v := (-1)) hx hb dX13_readStone_62 (by decide) ?_
        refine lv_icmp_ne (tgt := 71) hx hb dX13_readStone_63 (by decide) (fun c9 => absurd c9 (by decide)) (fun _ => ?_)
        refine lv_aload_n hx hb dX13_readStone_66 rfl (lv_at hl 2 rfl) ?_
        refine lv_iconst (v := 1) hx hb dX13_readStone_67 (by decide) ?_
        refine t_cVv (n := 1) (C := RX13) (T := TX13) (N := 37) (As := [.int 1]) (rest := []) X hT (km10_X13_flaw l G tag L F hT.2.2.2 p0 1 x0 x1 x2 soz23882 spz23882 faz23882 m0 g0 (by decide) mx0 gx0 pf0 mx1 gx1 pf1 mx2 gx2 pf2 (by omega) qsoz23882 (by omega) qspz23882 (by omega) qfaz23882 hkf) m0 g0 rfl rfl qw_548 qw_549 qw_550 qw_5 qw_551 ⟨rfl, by decide +kernel, by decide +kernel, by decide +kernel⟩ ⟨Nat.le_of_ble_eq_true rfl, Nat.le_of_ble_eq_true rfl⟩ hl rfl rfl (Nat.le_of_ble_eq_true rfl) dX13_readStone_68 ⟨Nat.le_of_ble_eq_true rfl, Nat.le_of_ble_eq_true rfl⟩ (fun F H locs hT hz23892 => ?_)
        obtain ⟨yz23892, ⟨soz23892, spz23892, faz23892, qsoz23892, qspz23892, qfaz23892, rsoz23892, rspz23892, rfaz23892, stz23892, ptz23892, hkf, pxz23892_0⟩⟩ := hz23892
        have pf0 := (yz23892.1 _ 4 (Or.inr (by decide)) (Or.inr (by decide)) (Or.inr (by decide))).trans pf0
        have pf1 := (yz23892.1 _ 28 (Or.inr (by decide)) (Or.inr (by decide)) (Or.inr (by decide))).trans pf1
        have pf2 := (yz23892.1 _ 29 (Or.inr (by decide)) (Or.inr (by decide)) (Or.inr (by decide))).trans pf2
        have pf6 := (yz23892.1 _ 12 (Or.inr (by decide)) (Or.inr (by decide)) (Or.inr (by decide))).trans pf6
        have pf7 := (yz23892.1 _ 7 (Or.inr (by decide)) (Or.inr (by decide)) (Or.inr (by decide))).trans pf7
        have pf8 := (yz23892.1 _ 8 (Or.inr (by decide)) (Or.inr (by decide)) (Or.inr (by decide))).trans pf8
        have pf9 := (yz23892.1 _ 9 (Or.inl (by rw [gx0]; decide)) (Or.inr (by decide)) (Or.inr (by decide))).trans pf9
        have pf10 := (yz23892.1 _ 10 (Or.inr (by decide)) (Or.inr (by decide)) (Or.inr (by decide))).trans pf10
        have pf11 := (yz23892.1 _ 0 (Or.inr (by decide)) (Or.inr (by decide)) (Or.inr (by decide))).trans pf11
        have qspz23882 := (yz23892.1 _ 8 (Or.inr (by decide)) (Or.inr (by decide)) (Or.inr (by decide))).trans qspz23882
        have hfr : (∀ b j : Nat, (tag b ≠ 44 ∨ j ≠ 7) → (tag b ≠ 44 ∨ j ≠ 12) → (tag b ≠ 46 ∨ j ≠ 8) → (tag b ≠ 46 ∨ j ≠ 9) → (tag b ≠ 46 ∨ j ≠ 10) → (tag b ≠ 46 ∨ j ≠ 11) → (tag b ≠ 46 ∨ j ≠ 12) → (tag b ≠ 46 ∨ j ≠ 13) → (tag b ≠ 46 ∨ j ≠ 14) → (tag b ≠ 46 ∨ j ≠ 15) → fld F b j = fld Fo b j) ∧ (∀ b j : Nat, tag b ≠ 29 → tag b ≠ 34 → tag b ≠ 35 → tag b ≠ 36 → elm F b j = elm Fo b j) := ⟨fun b j n44_7 n44_12 n46_8 n46_9 n46_10 n46_11 n46_12 n46_13 n46_14 n46_15 => (yz23892.1 b j n46_9 n46_13 n46_14).trans (hfr.1 b j n44_7 n44_12 n46_8 n46_9 n46_10 n46_11 n46_12 n46_13 n46_14 n46_15), fun b j a29 a34 a35 a36 => (yz23892.2 b j ).trans (hfr.2 b j a29 a34 a35 a36)⟩
        have hrel := msr_of (fun j => yz23892.2 _ j ) (fun j => yz23892.2 _ j ) hrel
        have hstk := STK.tr hstk stz23892
        have hspt := SPT.tr hspt ptz23892
        refine lv_aload_n hx hb dX13_readStone_71 rfl (lv_at hl 2 rfl) ?_
        refine t_cVv (n := 0) (C := RX13) (T := TX13) (N := 37) (As := []) (rest := []) X hT (km14_X13_goesOn l G tag L F hT.2.2.2 p0 x0 x1 x2 soz23892 spz23892 faz23892 m0 g0 mx0 gx0 pf0 mx1 gx1 pf1 mx2 gx2 pf2 (by omega) qsoz23892 (by omega) qspz23892 (by omega) qfaz23892 hkf) m0 g0 rfl rfl qw_508 qw_509 qw_510 qw_5 qw_511 ⟨rfl, by decide +kernel, by decide +kernel, by decide +kernel⟩ ⟨Nat.le_of_ble_eq_true rfl, Nat.le_of_ble_eq_true rfl⟩ hl rfl rfl (Nat.le_of_ble_eq_true rfl) dX13_readStone_72 ⟨Nat.le_of_ble_eq_true rfl, Nat.le_of_ble_eq_true rfl⟩ (fun F H locs hT hz23893 => ?_)
        obtain ⟨yz23893, ⟨soz23893, spz23893, faz23893, qsoz23893, qspz23893, qfaz23893, rsoz23893, rspz23893, rfaz23893, stz23893, ptz23893, hkf⟩⟩ := hz23893
        have pf0 := (yz23893.1 _ 4 (Or.inr (by decide)) (Or.inr (by decide)) (Or.inr (by decide)) (Or.inr (by decide)) (Or.inr (by decide)) (Or.inr (by decide))).trans pf0
        have pf1 := (yz23893.1 _ 28 (Or.inr (by decide)) (Or.inr (by decide)) (Or.inr (by decide)) (Or.inr (by decide)) (Or.inr (by decide)) (Or.inr (by decide))).trans pf1
        have pf2 := (yz23893.1 _ 29 (Or.inr (by decide)) (Or.inr (by decide)) (Or.inr (by decide)) (Or.inr (by decide)) (Or.inr (by decide)) (Or.inr (by decide))).trans pf2
        have pf6 := (yz23893.1 _ 12 (Or.inr (by decide)) (Or.inr (by decide)) (Or.inr (by decide)) (Or.inr (by decide)) (Or.inl (by rw [gx0]; decide)) (Or.inr (by decide))).trans pf6
        have pf7 := (yz23893.1 _ 7 (Or.inr (by decide)) (Or.inr (by decide)) (Or.inr (by decide)) (Or.inr (by decide)) (Or.inr (by decide)) (Or.inr (by decide))).trans pf7
        have pf8 := (yz23893.1 _ 8 (Or.inl (by rw [gx0]; decide)) (Or.inr (by decide)) (Or.inr (by decide)) (Or.inr (by decide)) (Or.inr (by decide)) (Or.inr (by decide))).trans pf8
        have pf9 := (yz23893.1 _ 9 (Or.inr (by decide)) (Or.inl (by rw [gx0]; decide)) (Or.inr (by decide)) (Or.inr (by decide)) (Or.inr (by decide)) (Or.inr (by decide))).trans pf9
        have pf10 := (yz23893.1 _ 10 (Or.inr (by decide)) (Or.inr (by decide)) (Or.inl (by rw [gx0]; decide)) (Or.inr (by decide)) (Or.inr (by decide)) (Or.inr (by decide))).trans pf10
        have pf11 := (yz23893.1 _ 0 (Or.inr (by decide)) (Or.inr (by decide)) (Or.inr (by decide)) (Or.inr (by decide)) (Or.inr (by decide)) (Or.inr (by decide))).trans pf11
        have qfaz23892 := (yz23893.1 _ 13 (Or.inr (by decide)) (Or.inr (by decide)) (Or.inr (by decide)) (Or.inr (by decide)) (Or.inr (by decide)) (Or.inr (by decide))).trans qfaz23892
        have hfr : (∀ b j : Nat, (tag b ≠ 44 ∨ j ≠ 7) → (tag b ≠ 44 ∨ j ≠ 12) → (tag b ≠ 46 ∨ j ≠ 8) → (tag b ≠ 46 ∨ j ≠ 9) → (tag b ≠ 46 ∨ j ≠ 10) → (tag b ≠ 46 ∨ j ≠ 11) → (tag b ≠ 46 ∨ j ≠ 12) → (tag b ≠ 46 ∨ j ≠ 13) → (tag b ≠ 46 ∨ j ≠ 14) → (tag b ≠ 46 ∨ j ≠ 15) → fld F b j = fld Fo b j) ∧ (∀ b j : Nat, tag b ≠ 29 → tag b ≠ 34 → tag b ≠ 35 → tag b ≠ 36 → elm F b j = elm Fo b j) := ⟨fun b j n44_7 n44_12 n46_8 n46_9 n46_10 n46_11 n46_12 n46_13 n46_14 n46_15 => (yz23893.1 b j n46_8 n46_9 n46_10 n46_11 n46_12 n46_15).trans (hfr.1 b j n44_7 n44_12 n46_8 n46_9 n46_10 n46_11 n46_12 n46_13 n46_14 n46_15), fun b j a29 a34 a35 a36 => (yz23893.2 b j ).trans (hfr.2 b j a29 a34 a35 a36)⟩
        have hrel := msr_of (fun j => yz23893.2 _ j ) (fun j => yz23893.2 _ j ) hrel
        have hstk := STK.tr hstk stz23893
        have hspt := SPT.tr hspt ptz23893
        have k5z23893 : soz23893.toInt = 5 := stz23893 (by omega)
        refine lv_aload_n hx hb dX13_readStone_75 rfl (lv_at hl 2 rfl) ?_
        refine m_ldcKw X 64 rfl dX13_readStone_76 ?_
        refine lv_iconst (v := 1) hx hb dX13_readStone_79 (by decide) ?_
        refine lv_bipush (v := 9) hx hb dX13_readStone_80 (by decide) ?_
        refine t_cVi (n := 3) (C := RX13) (T := TX13) (N := 37) (As := [.ref (G.2 (100 + 64)), .int 1, .int 9]) (rest := []) X hT (km62_X13_readPart l G tag L F hT.2.2.2 p0 64 1 9 x0 x1 x2 soz23893 spz23893 faz23893 m0 g0 (by decide) (by decide) (by decide) mx0 gx0 pf0 mx1 gx1 pf1 mx2 gx2 pf2 (by omega) qsoz23893 (by omega) qspz23893 (by omega) qfaz23893 hkf) m0 g0 rfl rfl qw_552 qw_553 qw_554 qw_5 qw_555 ⟨rfl, by decide +kernel, by decide +kernel, by decide +kernel⟩ ⟨Nat.le_of_ble_eq_true rfl, Nat.le_of_ble_eq_true rfl⟩ hl rfl rfl (Nat.le_of_ble_eq_true rfl) dX13_readStone_82 ⟨Nat.le_of_ble_eq_true rfl, Nat.le_of_ble_eq_true rfl⟩ (fun z23894 F H locs hT hz23894 => ?_)
        obtain ⟨hz23894, yz23894, ⟨soz23894, spz23894, faz23894, qsoz23894, qspz23894, qfaz23894, rsoz23894, rspz23894, rfaz23894, stz23894, ptz23894, hkf⟩⟩ := hz23894
        have pf0 := (yz23894.1 _ 4 (Or.inr (by decide)) (Or.inr (by decide)) (Or.inr (by decide)) (Or.inr (by decide)) (Or.inr (by decide)) (Or.inr (by decide)) (Or.inr (by decide)) (Or.inr (by decide))).trans pf0
        have pf1 := (yz23894.1 _ 28 (Or.inr (by decide)) (Or.inr (by decide)) (Or.inr (by decide)) (Or.inr (by decide)) (Or.inr (by decide)) (Or.inr (by decide)) (Or.inr (by decide)) (Or.inr (by decide))).trans pf1
        have pf2 := (yz23894.1 _ 29 (Or.inr (by decide)) (Or.inr (by decide)) (Or.inr (by decide)) (Or.inr (by decide)) (Or.inr (by decide)) (Or.inr (by decide)) (Or.inr (by decide)) (Or.inr (by decide))).trans pf2
        have pf6 := (yz23894.1 _ 12 (Or.inr (by decide)) (Or.inr (by decide)) (Or.inr (by decide)) (Or.inr (by decide)) (Or.inl (by rw [gx0]; decide)) (Or.inr (by decide)) (Or.inr (by decide)) (Or.inr (by decide))).trans pf6
        have pf7 := (yz23894.1 _ 7 (Or.inr (by decide)) (Or.inr (by decide)) (Or.inr (by decide)) (Or.inr (by decide)) (Or.inr (by decide)) (Or.inr (by decide)) (Or.inr (by decide)) (Or.inr (by decide))).trans pf7
        have pf8 := (yz23894.1 _ 8 (Or.inl (by rw [gx0]; decide)) (Or.inr (by decide)) (Or.inr (by decide)) (Or.inr (by decide)) (Or.inr (by decide)) (Or.inr (by decide)) (Or.inr (by decide)) (Or.inr (by decide))).trans pf8
        have pf9 := (yz23894.1 _ 9 (Or.inr (by decide)) (Or.inl (by rw [gx0]; decide)) (Or.inr (by decide)) (Or.inr (by decide)) (Or.inr (by decide)) (Or.inr (by decide)) (Or.inr (by decide)) (Or.inr (by decide))).trans pf9
        have pf10 := (yz23894.1 _ 10 (Or.inr (by decide)) (Or.inr (by decide)) (Or.inl (by rw [gx0]; decide)) (Or.inr (by decide)) (Or.inr (by decide)) (Or.inr (by decide)) (Or.inr (by decide)) (Or.inr (by decide))).trans pf10
        have pf11 := (yz23894.1 _ 0 (Or.inr (by decide)) (Or.inr (by decide)) (Or.inr (by decide)) (Or.inr (by decide)) (Or.inr (by decide)) (Or.inr (by decide)) (Or.inr (by decide)) (Or.inr (by decide))).trans pf11
        have hfr : (∀ b j : Nat, (tag b ≠ 44 ∨ j ≠ 7) → (tag b ≠ 44 ∨ j ≠ 12) → (tag b ≠ 46 ∨ j ≠ 8) → (tag b ≠ 46 ∨ j ≠ 9) → (tag b ≠ 46 ∨ j ≠ 10) → (tag b ≠ 46 ∨ j ≠ 11) → (tag b ≠ 46 ∨ j ≠ 12) → (tag b ≠ 46 ∨ j ≠ 13) → (tag b ≠ 46 ∨ j ≠ 14) → (tag b ≠ 46 ∨ j ≠ 15) → fld F b j = fld Fo b j) ∧ (∀ b j : Nat, tag b ≠ 29 → tag b ≠ 34 → tag b ≠ 35 → tag b ≠ 36 → elm F b j = elm Fo b j) := ⟨fun b j n44_7 n44_12 n46_8 n46_9 n46_10 n46_11 n46_12 n46_13 n46_14 n46_15 => (yz23894.1 b j n46_8 n46_9 n46_10 n46_11 n46_12 n46_13 n46_14 n46_15).trans (hfr.1 b j n44_7 n44_12 n46_8 n46_9 n46_10 n46_11 n46_12 n46_13 n46_14 n46_15), fun b j a29 a34 a35 a36 => (yz23894.2 b j ).trans (hfr.2 b j a29 a34 a35 a36)⟩
        have hrel := msr_of (fun j => yz23894.2 _ j ) (fun j => yz23894.2 _ j ) hrel
        have hstk := STK.tr hstk stz23894
        have hspt := SPT.tr hspt ptz23894
        have k5z23894 : soz23894.toInt = 5 := stz23894 (by omega)
        refine lv_istore (lv' := [(4, .int z23894), (3, .int (-1)), (1, .long z23882), (0, .ref p0)]) hx hb dX13_readStone_85 hl (by decide) rfl (fun ls hl => ?_)
        refine lv_aload_n hx hb dX13_readStone_87 rfl (lv_at hl 3 rfl) ?_
        refine m_ldcKw X 65 rfl dX13_readStone_88 ?_
        refine lv_iconst (v := 0) hx hb dX13_readStone_91 (by decide) ?_
        refine lv_bipush (v := 9) hx hb dX13_readStone_92 (by decide) ?_
        refine t_cVi (n := 3) (C := RX13) (T := TX13) (N := 37) (As := [.ref (G.2 (100 + 65)), .int 0, .int 9]) (rest := []) X hT (km63_X13_readPart l G tag L F hT.2.2.2 p0 65 0 9 x0 x1 x2 soz23894 spz23894 faz23894 m0 g0 (by decide) (by decide) (by decide) mx0 gx0 pf0 mx1 gx1 pf1 mx2 gx2 pf2 (by omega) qsoz23894 (by omega) qspz23894 (by omega) qfaz23894 hkf) m0 g0 rfl rfl qw_552 qw_553 qw_554 qw_5 qw_555 ⟨rfl, by decide +kernel, by decide +kernel, by decide +kernel⟩ ⟨Nat.le_of_ble_eq_true rfl, Nat.le_of_ble_eq_true rfl⟩ hl rfl rfl (Nat.le_of_ble_eq_true rfl) dX13_readStone_94 ⟨Nat.le_of_ble_eq_true rfl, Nat.le_of_ble_eq_true rfl⟩ (fun z23895 F H locs hT hz23895 => ?_)
        obtain ⟨hz23895, yz23895, ⟨soz23895, spz23895, faz23895, qsoz23895, qspz23895, qfaz23895, rsoz23895, rspz23895, rfaz23895, stz23895, ptz23895, hkf⟩⟩ := hz23895
        have pf0 := (yz23895.1 _ 4 (Or.inr (by decide)) (Or.inr (by decide)) (Or.inr (by decide)) (Or.inr (by decide)) (Or.inr (by decide)) (Or.inr (by decide)) (Or.inr (by decide)) (Or.inr (by decide))).trans pf0
        have pf1 := (yz23895.1 _ 28 (Or.inr (by decide)) (Or.inr (by decide)) (Or.inr (by decide)) (Or.inr (by decide)) (Or.inr (by decide)) (Or.inr (by decide)) (Or.inr (by decide)) (Or.inr (by decide))).trans pf1
        have pf2 := (yz23895.1 _ 29 (Or.inr (by decide)) (Or.inr (by decide)) (Or.inr (by decide)) (Or.inr (by decide)) (Or.inr (by decide)) (Or.inr (by decide)) (Or.inr (by decide)) (Or.inr (by decide))).trans pf2
        have pf6 := (yz23895.1 _ 12 (Or.inr (by decide)) (Or.inr (by decide)) (Or.inr (by decide)) (Or.inr (by decide)) (Or.inl (by rw [gx0]; decide)) (Or.inr (by decide)) (Or.inr (by decide)) (Or.inr (by decide))).trans pf6
        have pf7 := (yz23895.1 _ 7 (Or.inr (by decide)) (Or.inr (by decide)) (Or.inr (by decide)) (Or.inr (by decide)) (Or.inr (by decide)) (Or.inr (by decide)) (Or.inr (by decide)) (Or.inr (by decide))).trans pf7
        have pf8 := (yz23895.1 _ 8 (Or.inl (by rw [gx0]; decide)) (Or.inr (by decide)) (Or.inr (by decide)) (Or.inr (by decide)) (Or.inr (by decide)) (Or.inr (by decide)) (Or.inr (by decide)) (Or.inr (by decide))).trans pf8
        have pf9 := (yz23895.1 _ 9 (Or.inr (by decide)) (Or.inl (by rw [gx0]; decide)) (Or.inr (by decide)) (Or.inr (by decide)) (Or.inr (by decide)) (Or.inr (by decide)) (Or.inr (by decide)) (Or.inr (by decide))).trans pf9
        have pf10 := (yz23895.1 _ 10 (Or.inr (by decide)) (Or.inr (by decide)) (Or.inl (by rw [gx0]; decide)) (Or.inr (by decide)) (Or.inr (by decide)) (Or.inr (by decide)) (Or.inr (by decide)) (Or.inr (by decide))).trans pf10
        have pf11 := (yz23895.1 _ 0 (Or.inr (by decide)) (Or.inr (by decide)) (Or.inr (by decide)) (Or.inr (by decide)) (Or.inr (by decide)) (Or.inr (by decide)) (Or.inr (by decide)) (Or.inr (by decide))).trans pf11
        have hfr : (∀ b j : Nat, (tag b ≠ 44 ∨ j ≠ 7) → (tag b ≠ 44 ∨ j ≠ 12) → (tag b ≠ 46 ∨ j ≠ 8) → (tag b ≠ 46 ∨ j ≠ 9) → (tag b ≠ 46 ∨ j ≠ 10) → (tag b ≠ 46 ∨ j ≠ 11) → (tag b ≠ 46 ∨ j ≠ 12) → (tag b ≠ 46 ∨ j ≠ 13) → (tag b ≠ 46 ∨ j ≠ 14) → (tag b ≠ 46 ∨ j ≠ 15) → fld F b j = fld Fo b j) ∧ (∀ b j : Nat, tag b ≠ 29 → tag b ≠ 34 → tag b ≠ 35 → tag b ≠ 36 → elm F b j = elm Fo b j) := ⟨fun b j n44_7 n44_12 n46_8 n46_9 n46_10 n46_11 n46_12 n46_13 n46_14 n46_15 => (yz23895.1 b j n46_8 n46_9 n46_10 n46_11 n46_12 n46_13 n46_14 n46_15).trans (hfr.1 b j n44_7 n44_12 n46_8 n46_9 n46_10 n46_11 n46_12 n46_13 n46_14 n46_15), fun b j a29 a34 a35 a36 => (yz23895.2 b j ).trans (hfr.2 b j a29 a34 a35 a36)⟩
        have hrel := msr_of (fun j => yz23895.2 _ j ) (fun j => yz23895.2 _ j ) hrel
        have hstk := STK.tr hstk stz23895
        have hspt := SPT.tr hspt ptz23895
        have k5z23895 : soz23895.toInt = 5 := stz23895 (by omega)
        refine lv_istore (lv' := [(5, .int z23895), (4, .int z23894), (3, .int (-1)), (1, .long z23882), (0, .ref p0)]) hx hb dX13_readStone_97 hl (by decide) rfl (fun ls hl => ?_)
        refine lv_aload_n hx hb dX13_readStone_99 rfl (lv_at hl 4 rfl) ?_
        refine m_ldcKw X 66 rfl dX13_readStone_100 ?_
        refine lv_iconst (v := 0) hx hb dX13_readStone_103 (by decide) ?_
        refine lv_bipush (v := 9) hx hb dX13_readStone_104 (by decide) ?_
        refine t_cVi (n := 3) (C := RX13) (T := TX13) (N := 37) (As := [.ref (G.2 (100 + 66)), .int 0, .int 9]) (rest := []) X hT (km63_X13_readPart l G tag L F hT.2.2.2 p0 66 0 9 x0 x1 x2 soz23895 spz23895 faz23895 m0 g0 (by decide) (by decide) (by decide) mx0 gx0 pf0 mx1 gx1 pf1 mx2 gx2 pf2 (by omega) qsoz23895 (by omega) qspz23895 (by omega) qfaz23895 hkf) m0 g0 rfl rfl qw_552 qw_553 qw_554 qw_5 qw_555 ⟨rfl, by decide +kernel, by decide +kernel, by decide +kernel⟩ ⟨Nat.le_of_ble_eq_true rfl, Nat.le_of_ble_eq_true rfl⟩ hl rfl rfl (Nat.le_of_ble_eq_true rfl) dX13_readStone_106 ⟨Nat.le_of_ble_eq_true rfl, Nat.le_of_ble_eq_true rfl⟩ (fun z23896 F H locs hT hz23896 => ?_)
        obtain ⟨hz23896, yz23896, ⟨soz23896, spz23896, faz23896, qsoz23896, qspz23896, qfaz23896, rsoz23896, rspz23896, rfaz23896, stz23896, ptz23896, hkf⟩⟩ := hz23896
        have pf0 := (yz23896.1 _ 4 (Or.inr (by decide)) (Or.inr (by decide)) (Or.inr (by decide)) (Or.inr (by decide)) (Or.inr (by decide)) (Or.inr (by decide)) (Or.inr (by decide)) (Or.inr (by decide))).trans pf0
        have pf1 := (yz23896.1 _ 28 (Or.inr (by decide)) (Or.inr (by decide)) (Or.inr (by decide)) (Or.inr (by decide)) (Or.inr (by decide)) (Or.inr (by decide)) (Or.inr (by decide)) (Or.inr (by decide))).trans pf1
        have pf2 := (yz23896.1 _ 29 (Or.inr (by decide)) (Or.inr (by decide)) (Or.inr (by decide)) (Or.inr (by decide)) (Or.inr (by decide)) (Or.inr (by decide)) (Or.inr (by decide)) (Or.inr (by decide))).trans pf2
        have pf6 := (yz23896.1 _ 12 (Or.inr (by decide)) (Or.inr (by decide)) (Or.inr (by decide)) (Or.inr (by decide)) (Or.inl (by rw [gx0]; decide)) (Or.inr (by decide)) (Or.inr (by decide)) (Or.inr (by decide))).trans pf6
        have pf7 := (yz23896.1 _ 7 (Or.inr (by decide)) (Or.inr (by decide)) (Or.inr (by decide)) (Or.inr (by decide)) (Or.inr (by decide)) (Or.inr (by decide)) (Or.inr (by decide)) (Or.inr (by decide))).trans pf7
        have pf8 := (yz23896.1 _ 8 (Or.inl (by rw [gx0]; decide)) (Or.inr (by decide)) (Or.inr (by decide)) (Or.inr (by decide)) (Or.inr (by decide)) (Or.inr (by decide)) (Or.inr (by decide)) (Or.inr (by decide))).trans pf8
        have pf9 := (yz23896.1 _ 9 (Or.inr (by decide)) (Or.inl (by rw [gx0]; decide)) (Or.inr (by decide)) (Or.inr (by decide)) (Or.inr (by decide)) (Or.inr (by decide)) (Or.inr (by decide)) (Or.inr (by decide))).trans pf9
        have pf10 := (yz23896.1 _ 10 (Or.inr (by decide)) (Or.inr (by decide)) (Or.inl (by rw [gx0]; decide)) (Or.inr (by decide)) (Or.inr (by decide)) (Or.inr (by decide)) (Or.inr (by decide)) (Or.inr (by decide))).trans pf10
        have pf11 := (yz23896.1 _ 0 (Or.inr (by decide)) (Or.inr (by decide)) (Or.inr (by decide)) (Or.inr (by decide)) (Or.inr (by decide)) (Or.inr (by decide)) (Or.inr (by decide)) (Or.inr (by decide))).trans pf11
        have hfr : (∀ b j : Nat, (tag b ≠ 44 ∨ j ≠ 7) → (tag b ≠ 44 ∨ j ≠ 12) → (tag b ≠ 46 ∨ j ≠ 8) → (tag b ≠ 46 ∨ j ≠ 9) → (tag b ≠ 46 ∨ j ≠ 10) → (tag b ≠ 46 ∨ j ≠ 11) → (tag b ≠ 46 ∨ j ≠ 12) → (tag b ≠ 46 ∨ j ≠ 13) → (tag b ≠ 46 ∨ j ≠ 14) → (tag b ≠ 46 ∨ j ≠ 15) → fld F b j = fld Fo b j) ∧ (∀ b j : Nat, tag b ≠ 29 → tag b ≠ 34 → tag b ≠ 35 → tag b ≠ 36 → elm F b j = elm Fo b j) := ⟨fun b j n44_7 n44_12 n46_8 n46_9 n46_10 n46_11 n46_12 n46_13 n46_14 n46_15 => (yz23896.1 b j n46_8 n46_9 n46_10 n46_11 n46_12 n46_13 n46_14 n46_15).trans (hfr.1 b j n44_7 n44_12 n46_8 n46_9 n46_10 n46_11 n46_12 n46_13 n46_14 n46_15), fun b j a29 a34 a35 a36 => (yz23896.2 b j ).trans (hfr.2 b j a29 a34 a35 a36)⟩
        have hrel := msr_of (fun j => yz23896.2 _ j ) (fun j => yz23896.2 _ j ) hrel
        have hstk := STK.tr hstk stz23896
        have hspt := SPT.tr hspt ptz23896
        have k5z23896 : soz23896.toInt = 5 := stz23896 (by omega)
        refine lv_istore (lv' := [(6, .int z23896), (5, .int z23895), (4, .int z23894), (3, .int (-1)), (1, .long z23882), (0, .ref p0)]) hx hb dX13_readStone_109 hl (by decide) rfl (fun ls hl => ?_)
        refine lv_aload_n hx hb dX13_readStone_111 rfl (lv_at hl 5 rfl) ?_
        refine m_ldcKw X 67 rfl dX13_readStone_112 ?_
        refine lv_iconst (v := 1) hx hb dX13_readStone_115 (by decide) ?_
        refine lv_bipush (v := 99) hx hb dX13_readStone_116 (by decide) ?_
        refine t_cVi (n := 3) (C := RX13) (T := TX13) (N := 37) (As := [.ref (G.2 (100 + 67)), .int 1, .int 99]) (rest := []) X hT (km66_X13_readPart l G tag L F hT.2.2.2 p0 67 1 99 x0 x1 x2 soz23896 spz23896 faz23896 m0 g0 (by decide) (by decide) (by decide) mx0 gx0 pf0 mx1 gx1 pf1 mx2 gx2 pf2 (by omega) qsoz23896 (by omega) qspz23896 (by omega) qfaz23896 hkf) m0 g0 rfl rfl qw_552 qw_553 qw_554 qw_5 qw_555 ⟨rfl, by decide +kernel, by decide +kernel, by decide +kernel⟩ ⟨Nat.le_of_ble_eq_true rfl, Nat.le_of_ble_eq_true rfl⟩ hl rfl rfl (Nat.le_of_ble_eq_true rfl) dX13_readStone_118 ⟨Nat.le_of_ble_eq_true rfl, Nat.le_of_ble_eq_true rfl⟩ (fun z23897 F H locs hT hz23897 => ?_)
        obtain ⟨hz23897, yz23897, ⟨soz23897, spz23897, faz23897, qsoz23897, qspz23897, qfaz23897, rsoz23897, rspz23897, rfaz23897, stz23897, ptz23897, hkf⟩⟩ := hz23897
        have pf0 := (yz23897.1 _ 4 (Or.inr (by decide)) (Or.inr (by decide)) (Or.inr (by decide)) (Or.inr (by decide)) (Or.inr (by decide)) (Or.inr (by decide)) (Or.inr (by decide)) (Or.inr (by decide))).trans pf0
        have pf1 := (yz23897.1 _ 28 (Or.inr (by decide)) (Or.inr (by decide)) (Or.inr (by decide)) (Or.inr (by decide)) (Or.inr (by decide)) (Or.inr (by decide)) (Or.inr (by decide)) (Or.inr (by decide))).trans pf1
        have pf2 := (yz23897.1 _ 29 (Or.inr (by decide)) (Or.inr (by decide)) (Or.inr (by decide)) (Or.inr (by decide)) (Or.inr (by decide)) (Or.inr (by decide)) (Or.inr (by decide)) (Or.inr (by decide))).trans pf2
        have pf6 := (yz23897.1 _ 12 (Or.inr (by decide)) (Or.inr (by decide)) (Or.inr (by decide)) (Or.inr (by decide)) (Or.inl (by rw [gx0]; decide)) (Or.inr (by decide)) (Or.inr (by decide)) (Or.inr (by decide))).trans pf6
        have pf7 := (yz23897.1 _ 7 (Or.inr (by decide)) (Or.inr (by decide)) (Or.inr (by decide)) (Or.inr (by decide)) (Or.inr (by decide)) (Or.inr (by decide)) (Or.inr (by decide)) (Or.inr (by decide))).trans pf7
        have pf8 := (yz23897.1 _ 8 (Or.inl (by rw [gx0]; decide)) (Or.inr (by decide)) (Or.inr (by decide)) (Or.inr (by decide)) (Or.inr (by decide)) (Or.inr (by decide)) (Or.inr (by decide)) (Or.inr (by decide))).trans pf8
        have pf9 := (yz23897.1 _ 9 (Or.inr (by decide)) (Or.inl (by rw [gx0]; decide)) (Or.inr (by decide)) (Or.inr (by decide)) (Or.inr (by decide)) (Or.inr (by decide)) (Or.inr (by decide)) (Or.inr (by decide))).trans pf9
        have pf10 := (yz23897.1 _ 10 (Or.inr (by decide)) (Or.inr (by decide)) (Or.inl (by rw [gx0]; decide)) (Or.inr (by decide)) (Or.inr (by decide)) (Or.inr (by decide)) (Or.inr (by decide)) (Or.inr (by decide))).trans pf10
        have pf11 := (yz23897.1 _ 0 (Or.inr (by decide)) (Or.inr (by decide)) (Or.inr (by decide)) (Or.inr (by decide)) (Or.inr (by decide)) (Or.inr (by decide)) (Or.inr (by decide)) (Or.inr (by decide))).trans pf11
        have hfr : (∀ b j : Nat, (tag b ≠ 44 ∨ j ≠ 7) → (tag b ≠ 44 ∨ j ≠ 12) → (tag b ≠ 46 ∨ j ≠ 8) → (tag b ≠ 46 ∨ j ≠ 9) → (tag b ≠ 46 ∨ j ≠ 10) → (tag b ≠ 46 ∨ j ≠ 11) → (tag b ≠ 46 ∨ j ≠ 12) → (tag b ≠ 46 ∨ j ≠ 13) → (tag b ≠ 46 ∨ j ≠ 14) → (tag b ≠ 46 ∨ j ≠ 15) → fld F b j = fld Fo b j) ∧ (∀ b j : Nat, tag b ≠ 29 → tag b ≠ 34 → tag b ≠ 35 → tag b ≠ 36 → elm F b j = elm Fo b j) := ⟨fun b j n44_7 n44_12 n46_8 n46_9 n46_10 n46_11 n46_12 n46_13 n46_14 n46_15 => (yz23897.1 b j n46_8 n46_9 n46_10 n46_11 n46_12 n46_13 n46_14 n46_15).trans (hfr.1 b j n44_7 n44_12 n46_8 n46_9 n46_10 n46_11 n46_12 n46_13 n46_14 n46_15), fun b j a29 a34 a35 a36 => (yz23897.2 b j ).trans (hfr.2 b j a29 a34 a35 a36)⟩
        have hrel := msr_of (fun j => yz23897.2 _ j ) (fun j => yz23897.2 _ j ) hrel
        have hstk := STK.tr hstk stz23897
        have hspt := SPT.tr hspt ptz23897
        have k5z23897 : soz23897.toInt = 5 := stz23897 (by omega)
        refine lv_istore (lv' := [(7, .int z23897), (6, .int z23896), (5, .int z23895), (4, .int z23894), (3, .int (-1)), (1, .long z23882), (0, .ref p0)]) hx hb dX13_readStone_121 hl (by decide) rfl (fun ls hl => ?_)
        refine lv_aload_n hx hb dX13_readStone_123 rfl (lv_at hl 6 rfl) ?_
        refine t_get (C := RX13) (T := TX13) (N := 37) X hT m0 g0 rfl rfl 9 (by decide) qw_478 inlX13 rfl dX13_readStone_124 (fun v23898 hv23898 ov23898 => ?_)
        obtain rfl : v23898 = .int soz23897 := hv23898.symm.trans qsoz23897
        refine lv_iconst (v := 5) hx hb dX13_readStone_127 (by decide) ?_
        refine lv_icmp_ne (tgt := 132) hx hb dX13_readStone_128 (by decide) (fun c23899 => ?_) (fun c23899 => ?_)
        · have w23900 := cv_ne (rfl : soz23897.toInt = soz23897.toInt) (by decide : (5 : Int32).toInt = 5) c23899
          exfalso
          omega
        · have w23901 := cv_eq (rfl : soz23897.toInt = soz23897.toInt) (by decide : (5 : Int32).toInt = 5) c23899
          exact t_vret hQ X hT ⟨hfr, hrel, ⟨soz23897, spz23897, faz23897, qsoz23897, qspz23897, qfaz23897, (by omega), (by omega), (by omega), hstk, hspt, hkf⟩, ⟨x6, x7, x8, x9, x10, x11, pf6, pf7, pf8, pf9, pf10, pf11, (by omega), (by omega), (by omega), (by omega), (by omega), (by omega), hpl⟩⟩ (Nat.le_of_ble_eq_true rfl) (Nat.le_of_ble_eq_true rfl) dX13_readStone_131
      · have w23902 := cv_ne (rfl : z23889.toInt = z23889.toInt) (by decide : (0 : Int32).toInt = 0) c23890
        refine lv_iconst (v := 2) hx hb dX13_readStone_55 (by decide) ?_
        refine lv_goto (tgt := 60) hx hb dX13_readStone_56 (by decide) ?_
        refine lv_istore_n (lv' := [(3, .int 2), (1, .long z23882), (0, .ref p0)]) hx hb dX13_readStone_60 rfl hl (by decide) rfl (fun ls hl => ?_)
        refine lv_iload_n hx hb dX13_readStone_61 rfl (lv_at hl 0 rfl) ?_
        refine lv_iconst (v := (-1)) hx hb dX13_readStone_62 (by decide) ?_
        refine lv_icmp_ne (tgt := 71) hx hb dX13_readStone_63 (by decide) (fun _ => ?_) (fun c9 => absurd c9 (by decide))
        refine lv_aload_n hx hb dX13_readStone_71 rfl (lv_at hl 2 rfl) ?_
        refine t_cVv (n := 0) (C := RX13) (T := TX13) (N := 37) (As := []) (rest := []) X hT (km14_X13_goesOn l G tag L F hT.2.2.2 p0 x0 x1 x2 soz23882 spz23882 faz23882 m0 g0 mx0 gx0 pf0 mx1 gx1 pf1 mx2 gx2 pf2 (by omega) qsoz23882 (by omega) qspz23882 (by omega) qfaz23882 hkf) m0 g0 rfl rfl qw_508 qw_509 qw_510 qw_5 qw_511 ⟨rfl, by decide +kernel, by decide +kernel, by decide +kernel⟩ ⟨Nat.le_of_ble_eq_true rfl, Nat.le_of_ble_eq_true rfl⟩ hl rfl rfl (Nat.le_of_ble_eq_true rfl) dX13_readStone_72 ⟨Nat.le_of_ble_eq_true rfl, Nat.le_of_ble_eq_true rfl⟩ (fun F H locs hT hz23903 => ?_)
        obtain ⟨yz23903, ⟨soz23903, spz23903, faz23903, qsoz23903, qspz23903, qfaz23903, rsoz23903, rspz23903, rfaz23903, stz23903, ptz23903, hkf⟩⟩ := hz23903
        have pf0 := (yz23903.1 _ 4 (Or.inr (by decide)) (Or.inr (by decide)) (Or.inr (by decide)) (Or.inr (by decide)) (Or.inr (by decide)) (Or.inr (by decide))).trans pf0
        have pf1 := (yz23903.1 _ 28 (Or.inr (by decide)) (Or.inr (by decide)) (Or.inr (by decide)) (Or.inr (by decide)) (Or.inr (by decide)) (Or.inr (by decide))).trans pf1
        have pf2 := (yz23903.1 _ 29 (Or.inr (by decide)) (Or.inr (by decide)) (Or.inr (by decide)) (Or.inr (by decide)) (Or.inr (by decide)) (Or.inr (by decide))).trans pf2
        have pf6 := (yz23903.1 _ 12 (Or.inr (by decide)) (Or.inr (by decide)) (Or.inr (by decide)) (Or.inr (by decide)) (Or.inl (by rw [gx0]; decide)) (Or.inr (by decide))).trans pf6
        have pf7 := (yz23903.1 _ 7 (Or.inr (by decide)) (Or.inr (by decide)) (Or.inr (by decide)) (Or.inr (by decide)) (Or.inr (by decide)) (Or.inr (by decide))).trans pf7
        have pf8 := (yz23903.1 _ 8 (Or.inl (by rw [gx0]; decide)) (Or.inr (by decide)) (Or.inr (by decide)) (Or.inr (by decide)) (Or.inr (by decide)) (Or.inr (by decide))).trans pf8
        have pf9 := (yz23903.1 _ 9 (Or.inr (by decide)) (Or.inl (by rw [gx0]; decide)) (Or.inr (by decide)) (Or.inr (by decide)) (Or.inr (by decide)) (Or.inr (by decide))).trans pf9
        have pf10 := (yz23903.1 _ 10 (Or.inr (by decide)) (Or.inr (by decide)) (Or.inl (by rw [gx0]; decide)) (Or.inr (by decide)) (Or.inr (by decide)) (Or.inr (by decide))).trans pf10
        have pf11 := (yz23903.1 _ 0 (Or.inr (by decide)) (Or.inr (by decide)) (Or.inr (by decide)) (Or.inr (by decide)) (Or.inr (by decide)) (Or.inr (by decide))).trans pf11
        have qfaz23882 := (yz23903.1 _ 13 (Or.inr (by decide)) (Or.inr (by decide)) (Or.inr (by decide)) (Or.inr (by decide)) (Or.inr (by decide)) (Or.inr (by decide))).trans qfaz23882
        have hfr : (∀ b j : Nat, (tag b ≠ 44 ∨ j ≠ 7) → (tag b ≠ 44 ∨ j ≠ 12) → (tag b ≠ 46 ∨ j ≠ 8) → (tag b ≠ 46 ∨ j ≠ 9) → (tag b ≠ 46 ∨ j ≠ 10) → (tag b ≠ 46 ∨ j ≠ 11) → (tag b ≠ 46 ∨ j ≠ 12) → (tag b ≠ 46 ∨ j ≠ 13) → (tag b ≠ 46 ∨ j ≠ 14) → (tag b ≠ 46 ∨ j ≠ 15) → fld F b j = fld Fo b j) ∧ (∀ b j : Nat, tag b ≠ 29 → tag b ≠ 34 → tag b ≠ 35 → tag b ≠ 36 → elm F b j = elm Fo b j) := ⟨fun b j n44_7 n44_12 n46_8 n46_9 n46_10 n46_11 n46_12 n46_13 n46_14 n46_15 => (yz23903.1 b j n46_8 n46_9 n46_10 n46_11 n46_12 n46_15).trans (hfr.1 b j n44_7 n44_12 n46_8 n46_9 n46_10 n46_11 n46_12 n46_13 n46_14 n46_15), fun b j a29 a34 a35 a36 => (yz23903.2 b j ).trans (hfr.2 b j a29 a34 a35 a36)⟩
        have hrel := msr_of (fun j => yz23903.2 _ j ) (fun j => yz23903.2 _ j ) hrel
        have hstk := STK.tr hstk stz23903
        have hspt := SPT.tr hspt ptz23903
        refine lv_aload_n hx hb dX13_readStone_75 rfl (lv_at hl 2 rfl) ?_
        refine m_ldcKw X 64 rfl dX13_readStone_76 ?_
        refine lv_iconst (v := 1) hx hb dX13_readStone_79 (by decide) ?_
        refine lv_bipush (v := 9) hx hb dX13_readStone_80 (by decide) ?_
        refine t_cVi (n := 3) (C := RX13) (T := TX13) (N := 37) (As := [.ref (G.2 (100 + 64)), .int 1, .int 9]) (rest := []) X hT (km62_X13_readPart l G tag L F hT.2.2.2 p0 64 1 9 x0 x1 x2 soz23903 spz23903 faz23903 m0 g0 (by decide) (by decide) (by decide) mx0 gx0 pf0 mx1 gx1 pf1 mx2 gx2 pf2 (by omega) qsoz23903 (by omega) qspz23903 (by omega) qfaz23903 hkf) m0 g0 rfl rfl qw_552 qw_553 qw_554 qw_5 qw_555 ⟨rfl, by decide +kernel, by decide +kernel, by decide +kernel⟩ ⟨Nat.le_of_ble_eq_true rfl, Nat.le_of_ble_eq_true rfl⟩ hl rfl rfl (Nat.le_of_ble_eq_true rfl) dX13_readStone_82 ⟨Nat.le_of_ble_eq_true rfl, Nat.le_of_ble_eq_true rfl⟩ (fun z23904 F H locs hT hz23904 => ?_)
        obtain ⟨hz23904, yz23904, ⟨soz23904, spz23904, faz23904, qsoz23904, qspz23904, qfaz23904, rsoz23904, rspz23904, rfaz23904, stz23904, ptz23904, hkf⟩⟩ := hz23904
        have pf0 := (yz23904.1 _ 4 (Or.inr (by decide)) (Or.inr (by decide)) (Or.inr (by decide)) (Or.inr (by decide)) (Or.inr (by decide)) (Or.inr (by decide)) (Or.inr (by decide)) (Or.inr (by decide))).trans pf0
        have pf1 := (yz23904.1 _ 28 (Or.inr (by decide)) (Or.inr (by decide)) (Or.inr (by decide)) (Or.inr (by decide)) (Or.inr (by decide)) (Or.inr (by decide)) (Or.inr (by decide)) (Or.inr (by decide))).trans pf1
        have pf2 := (yz23904.1 _ 29 (Or.inr (by decide)) (Or.inr (by decide)) (Or.inr (by decide)) (Or.inr (by decide)) (Or.inr (by decide)) (Or.inr (by decide)) (Or.inr (by decide)) (Or.inr (by decide))).trans pf2
        have pf6 := (yz23904.1 _ 12 (Or.inr (by decide)) (Or.inr (by decide)) (Or.inr (by decide)) (Or.inr (by decide)) (Or.inl (by rw [gx0]; decide)) (Or.inr (by decide)) (Or.inr (by decide)) (Or.inr (by decide))).trans pf6
        have pf7 := (yz23904.1 _ 7 (Or.inr (by decide)) (Or.inr (by decide)) (Or.inr (by decide)) (Or.inr (by decide)) (Or.inr (by decide)) (Or.inr (by decide)) (Or.inr (by decide)) (Or.inr (by decide))).trans pf7
        have pf8 := (yz23904.1 _ 8 (Or.inl (by rw [gx0]; decide)) (Or.inr (by decide)) (Or.inr (by decide)) (Or.inr (by decide)) (Or.inr (by decide)) (Or.inr (by decide)) (Or.inr (by decide)) (Or.inr (by decide))).trans pf8
        have pf9 := (yz23904.1 _ 9 (Or.inr (by decide)) (Or.inl (by rw [gx0]; decide)) (Or.inr (by decide)) (Or.inr (by decide)) (Or.inr (by decide)) (Or.inr (by decide)) (Or.inr (by decide)) (Or.inr (by decide))).trans pf9
        have pf10 := (yz23904.1 _ 10 (Or.inr (by decide)) (Or.inr (by decide)) (Or.inl (by rw [gx0]; decide)) (Or.inr (by decide)) (Or.inr (by decide)) (Or.inr (by decide)) (Or.inr (by decide)) (Or.inr (by decide))).trans pf10
        have pf11 := (yz23904.1 _ 0 (Or.inr (by decide)) (Or.inr (by decide)) (Or.inr (by decide)) (Or.inr (by decide)) (Or.inr (by decide)) (Or.inr (by decide)) (Or.inr (by decide)) (Or.inr (by decide))).trans pf11
        have hfr : (∀ b j : Nat, (tag b ≠ 44 ∨ j ≠ 7) → (tag b ≠ 44 ∨ j ≠ 12) → (tag b ≠ 46 ∨ j ≠ 8) → (tag b ≠ 46 ∨ j ≠ 9) → (tag b ≠ 46 ∨ j ≠ 10) → (tag b ≠ 46 ∨ j ≠ 11) → (tag b ≠ 46 ∨ j ≠ 12) → (tag b ≠ 46 ∨ j ≠ 13) → (tag b ≠ 46 ∨ j ≠ 14) → (tag b ≠ 46 ∨ j ≠ 15) → fld F b j = fld Fo b j) ∧ (∀ b j : Nat, tag b ≠ 29 → tag b ≠ 34 → tag b ≠ 35 → tag b ≠ 36 → elm F b j = elm Fo b j) := ⟨fun b j n44_7 n44_12 n46_8 n46_9 n46_10 n46_11 n46_12 n46_13 n46_14 n46_15 => (yz23904.1 b j n46_8 n46_9 n46_10 n46_11 n46_12 n46_13 n46_14 n46_15).trans (hfr.1 b j n44_7 n44_12 n46_8 n46_9 n46_10 n46_11 n46_12 n46_13 n46_14 n46_15), fun b j a29 a34 a35 a36 => (yz23904.2 b j ).trans (hfr.2 b j a29 a34 a35 a36)⟩
        have hrel := msr_of (fun j => yz23904.2 _ j ) (fun j => yz23904.2 _ j ) hrel
        have hstk := STK.tr hstk stz23904
        have hspt := SPT.tr hspt ptz23904
        refine lv_istore (lv' := [(4, .int z23904), (3, .int 2), (1, .long z23882), (0, .ref p0)]) hx hb dX13_readStone_85 hl (by decide) rfl (fun ls hl => ?_)
        refine lv_aload_n hx hb dX13_readStone_87 rfl (lv_at hl 3 rfl) ?_
        refine m_ldcKw X 65 rfl dX13_readStone_88 ?_
        refine lv_iconst (v := 0) hx hb dX13_readStone_91 (by decide) ?_
        refine lv_bipush (v := 9) hx hb dX13_readStone_92 (by decide) ?_
        refine t_cVi (n := 3) (C := RX13) (T := TX13) (N := 37) (As := [.ref (G.2 (100 + 65)), .int 0, .int 9]) (rest := []) X hT (km63_X13_readPart l G tag L F hT.2.2.2 p0 65 0 9 x0 x1 x2 soz23904 spz23904 faz23904 m0 g0 (by decide) (by decide) (by decide) mx0 gx0 pf0 mx1 gx1 pf1 mx2 gx2 pf2 (by omega) qsoz23904 (by omega) qspz23904 (by omega) qfaz23904 hkf) m0 g0 rfl rfl qw_552 qw_553 qw_554 qw_5 qw_555 ⟨rfl, by decide +kernel, by decide +kernel, by decide +kernel⟩ ⟨Nat.le_of_ble_eq_true rfl, Nat.le_of_ble_eq_true rfl⟩ hl rfl rfl (Nat.le_of_ble_eq_true rfl) dX13_readStone_94 ⟨Nat.le_of_ble_eq_true rfl, Nat.le_of_ble_eq_true rfl⟩ (fun z23905 F H locs hT hz23905 => ?_)
        obtain ⟨hz23905, yz23905, ⟨soz23905, spz23905, faz23905, qsoz23905, qspz23905, qfaz23905, rsoz23905, rspz23905, rfaz23905, stz23905, ptz23905, hkf⟩⟩ := hz23905
        have pf0 := (yz23905.1 _ 4 (Or.inr (by decide)) (Or.inr (by decide)) (Or.inr (by decide)) (Or.inr (by decide)) (Or.inr (by decide)) (Or.inr (by decide)) (Or.inr (by decide)) (Or.inr (by decide))).trans pf0
        have pf1 := (yz23905.1 _ 28 (Or.inr (by decide)) (Or.inr (by decide)) (Or.inr (by decide)) (Or.inr (by decide)) (Or.inr (by decide)) (Or.inr (by decide)) (Or.inr (by decide)) (Or.inr (by decide))).trans pf1
        have pf2 := (yz23905.1 _ 29 (Or.inr (by decide)) (Or.inr (by decide)) (Or.inr (by decide)) (Or.inr (by decide)) (Or.inr (by decide)) (Or.inr (by decide)) (Or.inr (by decide)) (Or.inr (by decide))).trans pf2
        have pf6 := (yz23905.1 _ 12 (Or.inr (by decide)) (Or.inr (by decide)) (Or.inr (by decide)) (Or.inr (by decide)) (Or.inl (by rw [gx0]; decide)) (Or.inr (by decide)) (Or.inr (by decide)) (Or.inr (by decide))).trans pf6
        have pf7 := (yz23905.1 _ 7 (Or.inr (by decide)) (Or.inr (by decide)) (Or.inr (by decide)) (Or.inr (by decide)) (Or.inr (by decide)) (Or.inr (by decide)) (Or.inr (by decide)) (Or.inr (by decide))).trans pf7
        have pf8 := (yz23905.1 _ 8 (Or.inl (by rw [gx0]; decide)) (Or.inr (by decide)) (Or.inr (by decide)) (Or.inr (by decide)) (Or.inr (by decide)) (Or.inr (by decide)) (Or.inr (by decide)) (Or.inr (by decide))).trans pf8
        have pf9 := (yz23905.1 _ 9 (Or.inr (by decide)) (Or.inl (by rw [gx0]; decide)) (Or.inr (by decide)) (Or.inr (by decide)) (Or.inr (by decide)) (Or.inr (by decide)) (Or.inr (by decide)) (Or.inr (by decide))).trans pf9
        have pf10 := (yz23905.1 _ 10 (Or.inr (by decide)) (Or.inr (by decide)) (Or.inl (by rw [gx0]; decide)) (Or.inr (by decide)) (Or.inr (by decide)) (Or.inr (by decide)) (Or.inr (by decide)) (Or.inr (by decide))).trans pf10
        have pf11 := (yz23905.1 _ 0 (Or.inr (by decide)) (Or.inr (by decide)) (Or.inr (by decide)) (Or.inr (by decide)) (Or.inr (by decide)) (Or.inr (by decide)) (Or.inr (by decide)) (Or.inr (by decide))).trans pf11
        have hfr : (∀ b j : Nat, (tag b ≠ 44 ∨ j ≠ 7) → (tag b ≠ 44 ∨ j ≠ 12) → (tag b ≠ 46 ∨ j ≠ 8) → (tag b ≠ 46 ∨ j ≠ 9) → (tag b ≠ 46 ∨ j ≠ 10) → (tag b ≠ 46 ∨ j ≠ 11) → (tag b ≠ 46 ∨ j ≠ 12) → (tag b ≠ 46 ∨ j ≠ 13) → (tag b ≠ 46 ∨ j ≠ 14) → (tag b ≠ 46 ∨ j ≠ 15) → fld F b j = fld Fo b j) ∧ (∀ b j : Nat, tag b ≠ 29 → tag b ≠ 34 → tag b ≠ 35 → tag b ≠ 36 → elm F b j = elm Fo b j) := ⟨fun b j n44_7 n44_12 n46_8 n46_9 n46_10 n46_11 n46_12 n46_13 n46_14 n46_15 => (yz23905.1 b j n46_8 n46_9 n46_10 n46_11 n46_12 n46_13 n46_14 n46_15).trans (hfr.1 b j n44_7 n44_12 n46_8 n46_9 n46_10 n46_11 n46_12 n46_13 n46_14 n46_15), fun b j a29 a34 a35 a36 => (yz23905.2 b j ).trans (hfr.2 b j a29 a34 a35 a36)⟩
        have hrel := msr_of (fun j => yz23905.2 _ j ) (fun j => yz23905.2 _ j ) hrel
        have hstk := STK.tr hstk stz23905
        have hspt := SPT.tr hspt ptz23905
        refine lv_istore (lv' := [(5, .int z23905), (4, .int z23904), (3, .int 2), (1, .long z23882), (0, .ref p0)]) hx hb dX13_readStone_97 hl (by decide) rfl (fun ls hl => ?_)
        refine lv_aload_n hx hb dX13_readStone_99 rfl (lv_at hl 4 rfl) ?_
        refine m_ldcKw X 66 rfl dX13_readStone_100 ?_
        refine lv_iconst (v := 0) hx hb dX13_readStone_103 (by decide) ?_
        refine lv_bipush (v := 9) hx hb dX13_readStone_104 (by decide) ?_
        refine t_cVi (n := 3) (C := RX13) (T := TX13) (N := 37) (As := [.ref (G.2 (100 + 66)), .int 0, .int 9]) (rest := []) X hT (km63_X13_readPart l G tag L F hT.2.2.2 p0 66 0 9 x0 x1 x2 soz23905 spz23905 faz23905 m0 g0 (by decide) (by decide) (by decide) mx0 gx0 pf0 mx1 gx1 pf1 mx2 gx2 pf2 (by omega) qsoz23905 (by omega) qspz23905 (by omega) qfaz23905 hkf) m0 g0 rfl rfl qw_552 qw_553 qw_554 qw_5 qw_555 ⟨rfl, by decide +kernel, by decide +kernel, by decide +kernel⟩ ⟨Nat.le_of_ble_eq_true rfl, Nat.le_of_ble_eq_true rfl⟩ hl rfl rfl (Nat.le_of_ble_eq_true rfl) dX13_readStone_106 ⟨Nat.le_of_ble_eq_true rfl, Nat.le_of_ble_eq_true rfl⟩ (fun z23906 F H locs hT hz23906 => ?_)
        obtain ⟨hz23906, yz23906, ⟨soz23906, spz23906, faz23906, qsoz23906, qspz23906, qfaz23906, rsoz23906, rspz23906, rfaz23906, stz23906, ptz23906, hkf⟩⟩ := hz23906
        have pf0 := (yz23906.1 _ 4 (Or.inr (by decide)) (Or.inr (by decide)) (Or.inr (by decide)) (Or.inr (by decide)) (Or.inr (by decide)) (Or.inr (by decide)) (Or.inr (by decide)) (Or.inr (by decide))).trans pf0
        have pf1 := (yz23906.1 _ 28 (Or.inr (by decide)) (Or.inr (by decide)) (Or.inr (by decide)) (Or.inr (by decide)) (Or.inr (by decide)) (Or.inr (by decide)) (Or.inr (by decide)) (Or.inr (by decide))).trans pf1
        have pf2 := (yz23906.1 _ 29 (Or.inr (by decide)) (Or.inr (by decide)) (Or.inr (by decide)) (Or.inr (by decide)) (Or.inr (by decide)) (Or.inr (by decide)) (Or.inr (by decide)) (Or.inr (by decide))).trans pf2
        have pf6 := (yz23906.1 _ 12 (Or.inr (by decide)) (Or.inr (by decide)) (Or.inr (by decide)) (Or.inr (by decide)) (Or.inl (by rw [gx0]; decide)) (Or.inr (by decide)) (Or.inr (by decide)) (Or.inr (by decide))).trans pf6
        have pf7 := (yz23906.1 _ 7 (Or.inr (by decide)) (Or.inr (by decide)) (Or.inr (by decide)) (Or.inr (by decide)) (Or.inr (by decide)) (Or.inr (by decide)) (Or.inr (by decide)) (Or.inr (by decide))).trans pf7
        have pf8 := (yz23906.1 _ 8 (Or.inl (by rw [gx0]; decide)) (Or.inr (by decide)) (Or.inr (by decide)) (Or.inr (by decide)) (Or.inr (by decide)) (Or.inr (by decide)) (Or.inr (by decide)) (Or.inr (by decide))).trans pf8
        have pf9 := (yz23906.1 _ 9 (Or.inr (by decide)) (Or.inl (by rw [gx0]; decide)) (Or.inr (by decide)) (Or.inr (by decide)) (Or.inr (by decide)) (Or.inr (by decide)) (Or.inr (by decide)) (Or.inr (by decide))).trans pf9
        have pf10 := (yz23906.1 _ 10 (Or.inr (by decide)) (Or.inr (by decide)) (Or.inl (by rw [gx0]; decide)) (Or.inr (by decide)) (Or.inr (by decide)) (Or.inr (by decide)) (Or.inr (by decide)) (Or.inr (by decide))).trans pf10
        have pf11 := (yz23906.1 _ 0 (Or.inr (by decide)) (Or.inr (by decide)) (Or.inr (by decide)) (Or.inr (by decide)) (Or.inr (by decide)) (Or.inr (by decide)) (Or.inr (by decide)) (Or.inr (by decide))).trans pf11
        have hfr : (∀ b j : Nat, (tag b ≠ 44 ∨ j ≠ 7) → (tag b ≠ 44 ∨ j ≠ 12) → (tag b ≠ 46 ∨ j ≠ 8) → (tag b ≠ 46 ∨ j ≠ 9) → (tag b ≠ 46 ∨ j ≠ 10) → (tag b ≠ 46 ∨ j ≠ 11) → (tag b ≠ 46 ∨ j ≠ 12) → (tag b ≠ 46 ∨ j ≠ 13) → (tag b ≠ 46 ∨ j ≠ 14) → (tag b ≠ 46 ∨ j ≠ 15) → fld F b j = fld Fo b j) ∧ (∀ b j : Nat, tag b ≠ 29 → tag b ≠ 34 → tag b ≠ 35 → tag b ≠ 36 → elm F b j = elm Fo b j) := ⟨fun b j n44_7 n44_12 n46_8 n46_9 n46_10 n46_11 n46_12 n46_13 n46_14 n46_15 => (yz23906.1 b j n46_8 n46_9 n46_10 n46_11 n46_12 n46_13 n46_14 n46_15).trans (hfr.1 b j n44_7 n44_12 n46_8 n46_9 n46_10 n46_11 n46_12 n46_13 n46_14 n46_15), fun b j a29 a34 a35 a36 => (yz23906.2 b j ).trans (hfr.2 b j a29 a34 a35 a36)⟩
        have hrel := msr_of (fun j => yz23906.2 _ j ) (fun j => yz23906.2 _ j ) hrel
        have hstk := STK.tr hstk stz23906
        have hspt := SPT.tr hspt ptz23906
        refine lv_istore (lv' := [(6, .int z23906), (5, .int z23905), (4, .int z23904), (3, .int 2), (1, .long z23882), (0, .ref p0)]) hx hb dX13_readStone_109 hl (by decide) rfl (fun ls hl => ?_)
        refine lv_aload_n hx hb dX13_readStone_111 rfl (lv_at hl 5 rfl) ?_
        refine m_ldcKw X 67 rfl dX13_readStone_112 ?_
        refine lv_iconst (v := 1) hx hb dX13_readStone_115 (by decide) ?_
        refine lv_bipush (v := 99) hx hb dX13_readStone_116 (by decide) ?_
        refine t_cVi (n := 3) (C := RX13) (T := TX13) (N := 37) (As := [.ref (G.2 (100 + 67)), .int 1, .int 99]) (rest := []) X hT (km66_X13_readPart l G tag L F hT.2.2.2 p0 67 1 99 x0 x1 x2 soz23906 spz23906 faz23906 m0 g0 (by decide) (by decide) (by decide) mx0 gx0 pf0 mx1 gx1 pf1 mx2 gx2 pf2 (by omega) qsoz23906 (by omega) qspz23906 (by omega) qfaz23906 hkf) m0 g0 rfl rfl qw_552 qw_553 qw_554 qw_5 qw_555 ⟨rfl, by decide +kernel, by decide +kernel, by decide +kernel⟩ ⟨Nat.le_of_ble_eq_true rfl, Nat.le_of_ble_eq_true rfl⟩ hl rfl rfl (Nat.le_of_ble_eq_true rfl) dX13_readStone_118 ⟨Nat.le_of_ble_eq_true rfl, Nat.le_of_ble_eq_true rfl⟩ (fun z23907 F H locs hT hz23907 => ?_)
        obtain ⟨hz23907, yz23907, ⟨soz23907, spz23907, faz23907, qsoz23907, qspz23907, qfaz23907, rsoz23907, rspz23907, rfaz23907, stz23907, ptz23907, hkf⟩⟩ := hz23907
        have pf0 := (yz23907.1 _ 4 (Or.inr (by decide)) (Or.inr (by decide)) (Or.inr (by decide)) (Or.inr (by decide)) (Or.inr (by decide)) (Or.inr (by decide)) (Or.inr (by decide)) (Or.inr (by decide))).trans pf0
        have pf1 := (yz23907.1 _ 28 (Or.inr (by decide)) (Or.inr (by decide)) (Or.inr (by decide)) (Or.inr (by decide)) (Or.inr (by decide)) (Or.inr (by decide)) (Or.inr (by decide)) (Or.inr (by decide))).trans pf1
        have pf2 := (yz23907.1 _ 29 (Or.inr (by decide)) (Or.inr (by decide)) (Or.inr (by decide)) (Or.inr (by decide)) (Or.inr (by decide)) (Or.inr (by decide)) (Or.inr (by decide)) (Or.inr (by decide))).trans pf2
        have pf6 := (yz23907.1 _ 12 (Or.inr (by decide)) (Or.inr (by decide)) (Or.inr (by decide)) (Or.inr (by decide)) (Or.inl (by rw [gx0]; decide)) (Or.inr (by decide)) (Or.inr (by decide)) (Or.inr (by decide))).trans pf6
        have pf7 := (yz23907.1 _ 7 (Or.inr (by decide)) (Or.inr (by decide)) (Or.inr (by decide)) (Or.inr (by decide)) (Or.inr (by decide)) (Or.inr (by decide)) (Or.inr (by decide)) (Or.inr (by decide))).trans pf7
        have pf8 := (yz23907.1 _ 8 (Or.inl (by rw [gx0]; decide)) (Or.inr (by decide)) (Or.inr (by decide)) (Or.inr (by decide)) (Or.inr (by decide)) (Or.inr (by decide)) (Or.inr (by decide)) (Or.inr (by decide))).trans pf8
        have pf9 := (yz23907.1 _ 9 (Or.inr (by decide)) (Or.inl (by rw [gx0]; decide)) (Or.inr (by decide)) (Or.inr (by decide)) (Or.inr (by decide)) (Or.inr (by decide)) (Or.inr (by decide)) (Or.inr (by decide))).trans pf9
        have pf10 := (yz23907.1 _ 10 (Or.inr (by decide)) (Or.inr (by decide)) (Or.inl (by rw [gx0]; decide)) (Or.inr (by decide)) (Or.inr (by decide)) (Or.inr (by decide)) (Or.inr (by decide)) (Or.inr (by decide))).trans pf10
        have pf11 := (yz23907.1 _ 0 (Or.inr (by decide)) (Or.inr (by decide)) (Or.inr (by decide)) (Or.inr (by decide)) (Or.inr (by decide)) (Or.inr (by decide)) (Or.inr (by decide)) (Or.inr (by decide))).trans pf11
        have hfr : (∀ b j : Nat, (tag b ≠ 44 ∨ j ≠ 7) → (tag b ≠ 44 ∨ j ≠ 12) → (tag b ≠ 46 ∨ j ≠ 8) → (tag b ≠ 46 ∨ j ≠ 9) → (tag b ≠ 46 ∨ j ≠ 10) → (tag b ≠ 46 ∨ j ≠ 11) → (tag b ≠ 46 ∨ j ≠ 12) → (tag b ≠ 46 ∨ j ≠ 13) → (tag b ≠ 46 ∨ j ≠ 14) → (tag b ≠ 46 ∨ j ≠ 15) → fld F b j = fld Fo b j) ∧ (∀ b j : Nat, tag b ≠ 29 → tag b ≠ 34 → tag b ≠ 35 → tag b ≠ 36 → elm F b j = elm Fo b j) := ⟨fun b j n44_7 n44_12 n46_8 n46_9 n46_10 n46_11 n46_12 n46_13 n46_14 n46_15 => (yz23907.1 b j n46_8 n46_9 n46_10 n46_11 n46_12 n46_13 n46_14 n46_15).trans (hfr.1 b j n44_7 n44_12 n46_8 n46_9 n46_10 n46_11 n46_12 n46_13 n46_14 n46_15), fun b j a29 a34 a35 a36 => (yz23907.2 b j ).trans (hfr.2 b j a29 a34 a35 a36)⟩
        have hrel := msr_of (fun j => yz23907.2 _ j ) (fun j => yz23907.2 _ j ) hrel
        have hstk := STK.tr hstk stz23907
        have hspt := SPT.tr hspt ptz23907
        refine lv_istore (lv' := [(7, .int z23907), (6, .int z23906), (5, .int z23905), (4, .int z23904), (3, .int 2), (1, .long z23882), (0, .ref p0)]) hx hb dX13_readStone_121 hl (by decide) rfl (fun ls hl => ?_)
        refine lv_aload_n hx hb dX13_readStone_123 rfl (lv_at hl 6 rfl) ?_
        refine t_get (C := RX13) (T := TX13) (N := 37) X hT m0 g0 rfl rfl 9 (by decide) qw_478 inlX13 rfl dX13_readStone_124 (fun v23908 hv23908 ov23908 => ?_)
        obtain rfl : v23908 = .int soz23907 := hv23908.symm.trans qsoz23907
        refine lv_iconst (v := 5) hx hb dX13_readStone_127 (by decide) ?_
        refine lv_icmp_ne (tgt := 132) hx hb dX13_readStone_128 (by decide) (fun c23909 => ?_) (fun c23909 => ?_)
        · have w23910 := cv_ne (rfl : soz23907.toInt = soz23907.toInt) (by decide : (5 : Int32).toInt = 5) c23909
          have w23911 := (fun (h9 : soz23907.toInt ≠ 5) => (fun (h9 : soz23906.toInt ≠ 5) => (fun (h9 : soz23905.toInt ≠ 5) => (fun (h9 : soz23904.toInt ≠ 5) => (fun (h9 : soz23903.toInt ≠ 5) => (fun (h9 : soz23882.toInt ≠ 5) => pxz23880_0 (fun e9 => h9 (stz23882 e9))) (fun e9 => h9 (stz23903 e9))) (fun e9 => h9 (stz23904 e9))) (fun e9 => h9 (stz23905 e9))) (fun e9 => h9 (stz23906 e9))) (fun e9 => h9 (stz23907 e9))) (by omega)
          have w23912 := (fun (h9 : soz23907.toInt ≠ 5) => (fun (h9 : soz23906.toInt ≠ 5) => (fun (h9 : soz23905.toInt ≠ 5) => (fun (h9 : soz23904.toInt ≠ 5) => (fun (h9 : soz23903.toInt ≠ 5) => (fun (h9 : soz23882.toInt ≠ 5) => pxz23880_0 (fun e9 => h9 (stz23882 e9))) (fun e9 => h9 (stz23903 e9))) (fun e9 => h9 (stz23904 e9))) (fun e9 => h9 (stz23905 e9))) (fun e9 => h9 (stz23906 e9))) (fun e9 => h9 (stz23907 e9))) (by omega)
          refine lv_aload_n hx hb dX13_readStone_132 rfl (lv_at hl 6 rfl) ?_
          refine t_get (C := RX13) (T := TX13) (N := 37) X hT m0 g0 rfl rfl 4 (by decide) qw_477 inlX13 rfl dX13_readStone_133 (fun v23913 hv23913 ov23913 => ?_)
          obtain rfl : v23913 = .ref x0 := hv23913.symm.trans pf0
          refine t_getN (C := RX12) (T := TX12) (N := 31) X hT mx0 gx0 rfl rfl 7 (by decide) (List.mem_of_getElem? (i := 11) rfl) inlX12 rfl dX13_readStone_136 (fun v23914 hv23914 ov23914 => ?_)
          obtain rfl : v23914 = .int x7 := hv23914.symm.trans pf7
          refine lv_istore (lv' := [(8, .int x7), (7, .int z23907), (6, .int z23906), (5, .int z23905), (4, .int z23904), (3, .int 2), (1, .long z23882), (0, .ref p0)]) hx hb dX13_readStone_139 hl (by decide) rfl (fun ls hl => ?_)
          refine lv_aload_n hx hb dX13_readStone_141 rfl (lv_at hl 7 rfl) ?_
          refine lv_lload_n hx hb dX13_readStone_142 rfl (lv_at hl 6 rfl) ?_
          refine lv_iconst (v := 0) hx hb dX13_readStone_143 (by decide) ?_
          refine lv_iload hx hb dX13_readStone_144 (lv_at hl 0 rfl) ?_
          have w23915 : 0 ≤ x6.toInt ∧ x6.toInt ≤ 20 := by omega
          refine t_cVv (n := 3) (C := RX13) (T := TX13) (N := 37) (As := [.long z23882, .int 0, .int x7]) (rest := []) X hT (km67_X13_names l G tag L F hT.2.2.2 p0 z23882 0 x7 x0 x1 x2 x6 m0 g0 (by decide) (by omega) mx0 gx0 pf0 mx1 gx1 pf1 mx2 gx2 pf2 (by omega) pf6 hrel) m0 g0 rfl rfl qw_608 qw_609 qw_610 qw_5 qw_611 ⟨rfl, by decide +kernel, by decide +kernel, by decide +kernel⟩ ⟨Nat.le_of_ble_eq_true rfl, Nat.le_of_ble_eq_true rfl⟩ hl rfl rfl (Nat.le_of_ble_eq_true rfl) dX13_readStone_146 ⟨Nat.le_of_ble_eq_true rfl, Nat.le_of_ble_eq_true rfl⟩ (fun F H locs hT hz23916 => ?_)
          obtain ⟨yz23916, hrel, xz23916_0⟩ := hz23916
          have pf0 := (yz23916.1 _ 4 (Or.inr (by decide))).trans pf0
          have pf1 := (yz23916.1 _ 28 (Or.inr (by decide))).trans pf1
          have pf2 := (yz23916.1 _ 29 (Or.inr (by decide))).trans pf2
          have pf7 := (yz23916.1 _ 7 (Or.inr (by decide))).trans pf7
          have pf8 := (yz23916.1 _ 8 (Or.inr (by decide))).trans pf8
          have pf9 := (yz23916.1 _ 9 (Or.inr (by decide))).trans pf9
          have pf10 := (yz23916.1 _ 10 (Or.inr (by decide))).trans pf10
          have pf11 := (yz23916.1 _ 0 (Or.inr (by decide))).trans pf11
          have qsoz23907 := (yz23916.1 _ 9 (Or.inr (by decide))).trans qsoz23907
          have qspz23907 := (yz23916.1 _ 8 (Or.inr (by decide))).trans qspz23907
          have qfaz23907 := (yz23916.1 _ 13 (Or.inr (by decide))).trans qfaz23907
          have hfr : (∀ b j : Nat, (tag b ≠ 44 ∨ j ≠ 7) → (tag b ≠ 44 ∨ j ≠ 12) → (tag b ≠ 46 ∨ j ≠ 8) → (tag b ≠ 46 ∨ j ≠ 9) → (tag b ≠ 46 ∨ j ≠ 10) → (tag b ≠ 46 ∨ j ≠ 11) → (tag b ≠ 46 ∨ j ≠ 12) → (tag b ≠ 46 ∨ j ≠ 13) → (tag b ≠ 46 ∨ j ≠ 14) → (tag b ≠ 46 ∨ j ≠ 15) → fld F b j = fld Fo b j) ∧ (∀ b j : Nat, tag b ≠ 29 → tag b ≠ 34 → tag b ≠ 35 → tag b ≠ 36 → elm F b j = elm Fo b j) := ⟨fun b j n44_7 n44_12 n46_8 n46_9 n46_10 n46_11 n46_12 n46_13 n46_14 n46_15 => (yz23916.1 b j n44_12).trans (hfr.1 b j n44_7 n44_12 n46_8 n46_9 n46_10 n46_11 n46_12 n46_13 n46_14 n46_15), fun b j a29 a34 a35 a36 => (yz23916.2 b j a34 a35 a36).trans (hfr.2 b j a29 a34 a35 a36)⟩
          obtain ⟨z23917, qz23917, hz23917⟩ := xz23916_0
          have rz23917 : 0 ≤ z23917.toInt ∧ z23917.toInt ≤ 32 := by omega
          refine lv_aload_n hx hb dX13_readStone_149 rfl (lv_at hl 7 rfl) ?_
          refine t_get (C := RX13) (T := TX13) (N := 37) X hT m0 g0 rfl rfl 4 (by decide) qw_477 inlX13 rfl dX13_readStone_150 (fun v23918 hv23918 ov23918 => ?_)
          obtain rfl : v23918 = .ref x0 := hv23918.symm.trans pf0
          refine t_getN (C := RX12) (T := TX12) (N := 31) X hT mx0 gx0 rfl rfl 16 (by decide) (List.mem_of_getElem? (i := 20) rfl) inlX12 rfl dX13_readStone_153 (fun v23919 hv23919 ov23919 => ?_)
          obtain ⟨b23920, rfl, mb23920, gb23920⟩ := okV_r ov23919
          have gb23920 : tag b23920 = 29 := tg_of gb23920
          refine lv_iload hx hb dX13_readStone_156 (lv_at hl 0 rfl) ?_
          refine lv_iload_n hx hb dX13_readStone_158 rfl (lv_at hl 5 rfl) ?_
          refine t_ist X hT mb23920 gb23920 rfl (by omega) (show (-2147483648) ≤ (2 : Int32).toInt ∧ (2 : Int32).toInt ≤ 2147483647 from (rg_all _)) dX13_readStone_159 (fun F H locs hT v23921 h1v23921 h2v23921 => ?_)
          have pf0 := (h2v23921 _ _).trans pf0
          have pf1 := (h2v23921 _ _).trans pf1
          have pf2 := (h2v23921 _ _).trans pf2
          have pf7 := (h2v23921 _ _).trans pf7
          have pf8 := (h2v23921 _ _).trans pf8
          have pf9 := (h2v23921 _ _).trans pf9
          have pf10 := (h2v23921 _ _).trans pf10
          have pf11 := (h2v23921 _ _).trans pf11
          have qsoz23907 := (h2v23921 _ _).trans qsoz23907
          have qspz23907 := (h2v23921 _ _).trans qspz23907
          have qfaz23907 := (h2v23921 _ _).trans qfaz23907
          have qz23917 := (h2v23921 _ _).trans qz23917
          have hv23919 := (h2v23921 _ _).trans hv23919
          have hfr : (∀ b j : Nat, (tag b ≠ 44 ∨ j ≠ 7) → (tag b ≠ 44 ∨ j ≠ 12) → (tag b ≠ 46 ∨ j ≠ 8) → (tag b ≠ 46 ∨ j ≠ 9) → (tag b ≠ 46 ∨ j ≠ 10) → (tag b ≠ 46 ∨ j ≠ 11) → (tag b ≠ 46 ∨ j ≠ 12) → (tag b ≠ 46 ∨ j ≠ 13) → (tag b ≠ 46 ∨ j ≠ 14) → (tag b ≠ 46 ∨ j ≠ 15) → fld F b j = fld Fo b j) ∧ (∀ b j : Nat, tag b ≠ 29 → tag b ≠ 34 → tag b ≠ 35 → tag b ≠ 36 → elm F b j = elm Fo b j) := ⟨fun b j n44_7 n44_12 n46_8 n46_9 n46_10 n46_11 n46_12 n46_13 n46_14 n46_15 => (h2v23921 b j).trans (hfr.1 b j n44_7 n44_12 n46_8 n46_9 n46_10 n46_11 n46_12 n46_13 n46_14 n46_15), fun b j a29 a34 a35 a36 => (h1v23921 b j (Or.inl (at_ne gb23920 a29))).trans (hfr.2 b j a29 a34 a35 a36)⟩
          have hrel := msr_of (fun j => h1v23921 _ j (Or.inl (tne gx1 gb23920 (by decide)))) (fun j => h1v23921 _ j (Or.inl (tne gx2 gb23920 (by decide)))) hrel
          refine lv_aload_n hx hb dX13_readStone_160 rfl (lv_at hl 7 rfl) ?_
          refine t_get (C := RX13) (T := TX13) (N := 37) X hT m0 g0 rfl rfl 4 (by decide) qw_477 inlX13 rfl dX13_readStone_161 (fun v23922 hv23922 ov23922 => ?_)
          obtain rfl : v23922 = .ref x0 := hv23922.symm.trans pf0
          refine t_getN (C := RX12) (T := TX12) (N := 31) X hT mx0 gx0 rfl rfl 17 (by decide) (List.mem_of_getElem? (i := 21) rfl) inlX12 rfl dX13_readStone_164 (fun v23923 hv23923 ov23923 => ?_)
          obtain ⟨b23924, rfl, mb23924, gb23924⟩ := okV_r ov23923
          have gb23924 : tag b23924 = 29 := tg_of gb23924
          refine lv_iload hx hb dX13_readStone_167 (lv_at hl 0 rfl) ?_
          refine lv_iload hx hb dX13_readStone_169 (lv_at hl 4 rfl) ?_
          refine t_ist X hT mb23924 gb23924 rfl (by omega) (show (-2147483648) ≤ (z23904 : Int32).toInt ∧ (z23904 : Int32).toInt ≤ 2147483647 from (rg_all _)) dX13_readStone_171 (fun F H locs hT v23925 h1v23925 h2v23925 => ?_)
          have pf0 := (h2v23925 _ _).trans pf0
          have pf1 := (h2v23925 _ _).trans pf1
          have pf2 := (h2v23925 _ _).trans pf2
          have pf7 := (h2v23925 _ _).trans pf7
          have pf8 := (h2v23925 _ _).trans pf8
          have pf9 := (h2v23925 _ _).trans pf9
          have pf10 := (h2v23925 _ _).trans pf10
          have pf11 := (h2v23925 _ _).trans pf11
          have qsoz23907 := (h2v23925 _ _).trans qsoz23907
          have qspz23907 := (h2v23925 _ _).trans qspz23907
          have qfaz23907 := (h2v23925 _ _).trans qfaz23907
          have qz23917 := (h2v23925 _ _).trans qz23917
          have hv23919 := (h2v23925 _ _).trans hv23919
          have hv23923 := (h2v23925 _ _).trans hv23923
          have hfr : (∀ b j : Nat, (tag b ≠ 44 ∨ j ≠ 7) → (tag b ≠ 44 ∨ j ≠ 12) → (tag b ≠ 46 ∨ j ≠ 8) → (tag b ≠ 46 ∨ j ≠ 9) → (tag b ≠ 46 ∨ j ≠ 10) → (tag b ≠ 46 ∨ j ≠ 11) → (tag b ≠ 46 ∨ j ≠ 12) → (tag b ≠ 46 ∨ j ≠ 13) → (tag b ≠ 46 ∨ j ≠ 14) → (tag b ≠ 46 ∨ j ≠ 15) → fld F b j = fld Fo b j) ∧ (∀ b j : Nat, tag b ≠ 29 → tag b ≠ 34 → tag b ≠ 35 → tag b ≠ 36 → elm F b j = elm Fo b j) := ⟨fun b j n44_7 n44_12 n46_8 n46_9 n46_10 n46_11 n46_12 n46_13 n46_14 n46_15 => (h2v23925 b j).trans (hfr.1 b j n44_7 n44_12 n46_8 n46_9 n46_10 n46_11 n46_12 n46_13 n46_14 n46_15), fun b j a29 a34 a35 a36 => (h1v23925 b j (Or.inl (at_ne gb23924 a29))).trans (hfr.2 b j a29 a34 a35 a36)⟩
          have hrel := msr_of (fun j => h1v23925 _ j (Or.inl (tne gx1 gb23924 (by decide)))) (fun j => h1v23925 _ j (Or.inl (tne gx2 gb23924 (by decide)))) hrel
          refine lv_aload_n hx hb dX13_readStone_172 rfl (lv_at hl 7 rfl) ?_
          refine t_get (C := RX13) (T := TX13) (N := 37) X hT m0 g0 rfl rfl 4 (by decide) qw_477 inlX13 rfl dX13_readStone_173 (fun v23926 hv23926 ov23926 => ?_)
          obtain rfl : v23926 = .ref x0 := hv23926.symm.trans pf0
          refine t_getN (C := RX12) (T := TX12) (N := 31) X hT mx0 gx0 rfl rfl 18 (by decide) (List.mem_of_getElem? (i := 22) rfl) inlX12 rfl dX13_readStone_176 (fun v23927 hv23927 ov23927 => ?_)
          obtain ⟨b23928, rfl, mb23928, gb23928⟩ := okV_r ov23927
          have gb23928 : tag b23928 = 29 := tg_of gb23928
          refine lv_iload hx hb dX13_readStone_179 (lv_at hl 0 rfl) ?_
          refine lv_iload hx hb dX13_readStone_181 (lv_at hl 3 rfl) ?_
          refine t_ist X hT mb23928 gb23928 rfl (by omega) (show (-2147483648) ≤ (z23905 : Int32).toInt ∧ (z23905 : Int32).toInt ≤ 2147483647 from (rg_all _)) dX13_readStone_183 (fun F H locs hT v23929 h1v23929 h2v23929 => ?_)
          have pf0 := (h2v23929 _ _).trans pf0
          have pf1 := (h2v23929 _ _).trans pf1
          have pf2 := (h2v23929 _ _).trans pf2
          have pf7 := (h2v23929 _ _).trans pf7
          have pf8 := (h2v23929 _ _).trans pf8
          have pf9 := (h2v23929 _ _).trans pf9
          have pf10 := (h2v23929 _ _).trans pf10
          have pf11 := (h2v23929 _ _).trans pf11
          have qsoz23907 := (h2v23929 _ _).trans qsoz23907
          have qspz23907 := (h2v23929 _ _).trans qspz23907
          have qfaz23907 := (h2v23929 _ _).trans qfaz23907
          have qz23917 := (h2v23929 _ _).trans qz23917
          have hv23919 := (h2v23929 _ _).trans hv23919
          have hv23923 := (h2v23929 _ _).trans hv23923
          have hv23927 := (h2v23929 _ _).trans hv23927
          have hfr : (∀ b j : Nat, (tag b ≠ 44 ∨ j ≠ 7) → (tag b ≠ 44 ∨ j ≠ 12) → (tag b ≠ 46 ∨ j ≠ 8) → (tag b ≠ 46 ∨ j ≠ 9) → (tag b ≠ 46 ∨ j ≠ 10) → (tag b ≠ 46 ∨ j ≠ 11) → (tag b ≠ 46 ∨ j ≠ 12) → (tag b ≠ 46 ∨ j ≠ 13) → (tag b ≠ 46 ∨ j ≠ 14) → (tag b ≠ 46 ∨ j ≠ 15) → fld F b j = fld Fo b j) ∧ (∀ b j : Nat, tag b ≠ 29 → tag b ≠ 34 → tag b ≠ 35 → tag b ≠ 36 → elm F b j = elm Fo b j) := ⟨fun b j n44_7 n44_12 n46_8 n46_9 n46_10 n46_11 n46_12 n46_13 n46_14 n46_15 => (h2v23929 b j).trans (hfr.1 b j n44_7 n44_12 n46_8 n46_9 n46_10 n46_11 n46_12 n46_13 n46_14 n46_15), fun b j a29 a34 a35 a36 => (h1v23929 b j (Or.inl (at_ne gb23928 a29))).trans (hfr.2 b j a29 a34 a35 a36)⟩
          have hrel := msr_of (fun j => h1v23929 _ j (Or.inl (tne gx1 gb23928 (by decide)))) (fun j => h1v23929 _ j (Or.inl (tne gx2 gb23928 (by decide)))) hrel
          refine lv_aload_n hx hb dX13_readStone_184 rfl (lv_at hl 7 rfl) ?_
          refine t_get (C := RX13) (T := TX13) (N := 37) X hT m0 g0 rfl rfl 4 (by decide) qw_477 inlX13 rfl dX13_readStone_185 (fun v23930 hv23930 ov23930 => ?_)
          obtain rfl : v23930 = .ref x0 := hv23930.symm.trans pf0
          refine t_getN (C := RX12) (T := TX12) (N := 31) X hT mx0 gx0 rfl rfl 19 (by decide) (List.mem_of_getElem? (i := 23) rfl) inlX12 rfl dX13_readStone_188 (fun v23931 hv23931 ov23931 => ?_)
          obtain ⟨b23932, rfl, mb23932, gb23932⟩ := okV_r ov23931
          have gb23932 : tag b23932 = 29 := tg_of gb23932
          refine lv_iload hx hb dX13_readStone_191 (lv_at hl 0 rfl) ?_
          refine lv_iload hx hb dX13_readStone_193 (lv_at hl 2 rfl) ?_
          refine t_ist X hT mb23932 gb23932 rfl (by omega) (show (-2147483648) ≤ (z23906 : Int32).toInt ∧ (z23906 : Int32).toInt ≤ 2147483647 from (rg_all _)) dX13_readStone_195 (fun F H locs hT v23933 h1v23933 h2v23933 => ?_)
          have pf0 := (h2v23933 _ _).trans pf0
          have pf1 := (h2v23933 _ _).trans pf1
          have pf2 := (h2v23933 _ _).trans pf2
          have pf7 := (h2v23933 _ _).trans pf7
          have pf8 := (h2v23933 _ _).trans pf8
          have pf9 := (h2v23933 _ _).trans pf9
          have pf10 := (h2v23933 _ _).trans pf10
          have pf11 := (h2v23933 _ _).trans pf11
          have qsoz23907 := (h2v23933 _ _).trans qsoz23907
          have qspz23907 := (h2v23933 _ _).trans qspz23907
          have qfaz23907 := (h2v23933 _ _).trans qfaz23907
          have qz23917 := (h2v23933 _ _).trans qz23917
          have hv23919 := (h2v23933 _ _).trans hv23919
          have hv23923 := (h2v23933 _ _).trans hv23923
          have hv23927 := (h2v23933 _ _).trans hv23927
          have hv23931 := (h2v23933 _ _).trans hv23931
          have hfr : (∀ b j : Nat, (tag b ≠ 44 ∨ j ≠ 7) → (tag b ≠ 44 ∨ j ≠ 12) → (tag b ≠ 46 ∨ j ≠ 8) → (tag b ≠ 46 ∨ j ≠ 9) → (tag b ≠ 46 ∨ j ≠ 10) → (tag b ≠ 46 ∨ j ≠ 11) → (tag b ≠ 46 ∨ j ≠ 12) → (tag b ≠ 46 ∨ j ≠ 13) → (tag b ≠ 46 ∨ j ≠ 14) → (tag b ≠ 46 ∨ j ≠ 15) → fld F b j = fld Fo b j) ∧ (∀ b j : Nat, tag b ≠ 29 → tag b ≠ 34 → tag b ≠ 35 → tag b ≠ 36 → elm F b j = elm Fo b j) := ⟨fun b j n44_7 n44_12 n46_8 n46_9 n46_10 n46_11 n46_12 n46_13 n46_14 n46_15 => (h2v23933 b j).trans (hfr.1 b j n44_7 n44_12 n46_8 n46_9 n46_10 n46_11 n46_12 n46_13 n46_14 n46_15), fun b j a29 a34 a35 a36 => (h1v23933 b j (Or.inl (at_ne gb23932 a29))).trans (hfr.2 b j a29 a34 a35 a36)⟩
          have hrel := msr_of (fun j => h1v23933 _ j (Or.inl (tne gx1 gb23932 (by decide)))) (fun j => h1v23933 _ j (Or.inl (tne gx2 gb23932 (by decide)))) hrel
          refine lv_aload_n hx hb dX13_readStone_196 rfl (lv_at hl 7 rfl) ?_
          refine t_get (C := RX13) (T := TX13) (N := 37) X hT m0 g0 rfl rfl 4 (by decide) qw_477 inlX13 rfl dX13_readStone_197 (fun v23934 hv23934 ov23934 => ?_)
          obtain rfl : v23934 = .ref x0 := hv23934.symm.trans pf0
          refine t_getN (C := RX12) (T := TX12) (N := 31) X hT mx0 gx0 rfl rfl 20 (by decide) (List.mem_of_getElem? (i := 24) rfl) inlX12 rfl dX13_readStone_200 (fun v23935 hv23935 ov23935 => ?_)
          obtain ⟨b23936, rfl, mb23936, gb23936⟩ := okV_r ov23935
          have gb23936 : tag b23936 = 29 := tg_of gb23936
          refine lv_iload hx hb dX13_readStone_203 (lv_at hl 0 rfl) ?_
          refine lv_iload hx hb dX13_readStone_205 (lv_at hl 1 rfl) ?_
          refine t_ist X hT mb23936 gb23936 rfl (by omega) (show (-2147483648) ≤ (z23907 : Int32).toInt ∧ (z23907 : Int32).toInt ≤ 2147483647 from (rg_all _)) dX13_readStone_207 (fun F H locs hT v23937 h1v23937 h2v23937 => ?_)
          have pf0 := (h2v23937 _ _).trans pf0
          have pf1 := (h2v23937 _ _).trans pf1
          have pf2 := (h2v23937 _ _).trans pf2
          have pf7 := (h2v23937 _ _).trans pf7
          have pf8 := (h2v23937 _ _).trans pf8
          have pf9 := (h2v23937 _ _).trans pf9
          have pf10 := (h2v23937 _ _).trans pf10
          have pf11 := (h2v23937 _ _).trans pf11
          have qsoz23907 := (h2v23937 _ _).trans qsoz23907
          have qspz23907 := (h2v23937 _ _).trans qspz23907
          have qfaz23907 := (h2v23937 _ _).trans qfaz23907
          have qz23917 := (h2v23937 _ _).trans qz23917
          have hv23919 := (h2v23937 _ _).trans hv23919
          have hv23923 := (h2v23937 _ _).trans hv23923
          have hv23927 := (h2v23937 _ _).trans hv23927
          have hv23931 := (h2v23937 _ _).trans hv23931
          have hv23935 := (h2v23937 _ _).trans hv23935
          have hfr : (∀ b j : Nat, (tag b ≠ 44 ∨ j ≠ 7) → (tag b ≠ 44 ∨ j ≠ 12) → (tag b ≠ 46 ∨ j ≠ 8) → (tag b ≠ 46 ∨ j ≠ 9) → (tag b ≠ 46 ∨ j ≠ 10) → (tag b ≠ 46 ∨ j ≠ 11) → (tag b ≠ 46 ∨ j ≠ 12) → (tag b ≠ 46 ∨ j ≠ 13) → (tag b ≠ 46 ∨ j ≠ 14) → (tag b ≠ 46 ∨ j ≠ 15) → fld F b j = fld Fo b j) ∧ (∀ b j : Nat, tag b ≠ 29 → tag b ≠ 34 → tag b ≠ 35 → tag b ≠ 36 → elm F b j = elm Fo b j) := ⟨fun b j n44_7 n44_12 n46_8 n46_9 n46_10 n46_11 n46_12 n46_13 n46_14 n46_15 => (h2v23937 b j).trans (hfr.1 b j n44_7 n44_12 n46_8 n46_9 n46_10 n46_11 n46_12 n46_13 n46_14 n46_15), fun b j a29 a34 a35 a36 => (h1v23937 b j (Or.inl (at_ne gb23936 a29))).trans (hfr.2 b j a29 a34 a35 a36)⟩
          have hrel := msr_of (fun j => h1v23937 _ j (Or.inl (tne gx1 gb23936 (by decide)))) (fun j => h1v23937 _ j (Or.inl (tne gx2 gb23936 (by decide)))) hrel
          refine lv_aload_n hx hb dX13_readStone_208 rfl (lv_at hl 7 rfl) ?_
          refine t_get (C := RX13) (T := TX13) (N := 37) X hT m0 g0 rfl rfl 4 (by decide) qw_477 inlX13 rfl dX13_readStone_209 (fun v23938 hv23938 ov23938 => ?_)
          obtain rfl : v23938 = .ref x0 := hv23938.symm.trans pf0
          refine lv_dup hx hb dX13_readStone_212 rfl ?_
          refine t_getN (C := RX12) (T := TX12) (N := 31) X hT mx0 gx0 rfl rfl 7 (by decide) (List.mem_of_getElem? (i := 11) rfl) inlX12 rfl dX13_readStone_213 (fun v23939 hv23939 ov23939 => ?_)
          obtain rfl : v23939 = .int x7 := hv23939.symm.trans pf7
          refine lv_iconst (v := 1) hx hb dX13_readStone_216 (by decide) ?_
          refine lv_iadd hx hb dX13_readStone_217 ?_
          refine lv_topi (fun z23940 ez23940 => ?_)
          have hz23940 : z23940.toInt = x7.toInt + 1 := ar_add ez23940 (rfl : x7.toInt = x7.toInt) (by decide : (1 : Int32).toInt = 1) (by omega) (by omega)
          have rz23940 : 1 ≤ z23940.toInt ∧ z23940.toInt ≤ 4 := by omega
          refine t_putN (C := RX12) (T := TX12) (N := 31) (v := .int z23940) X hT mx0 gx0 rfl tyX12 tyX12_ok nmX12 rfl 7 (by decide) (List.mem_of_getElem? (i := 11) rfl) inlX12 rfl (by first | rfl | decide) (by first | rfl | decide) rfl (⟨_, rfl, (show 0 ≤ (z23940 : Int32).toInt from (by omega)), (show (z23940 : Int32).toInt ≤ 4 from (by omega))⟩) dX13_readStone_218 (fun F H locs hT v23941 h1v23941 h2v23941 => ?_)
          have pf0 := (h1v23941 _ _ (Or.inr (by decide))).trans pf0
          have pf1 := (h1v23941 _ _ (Or.inr (by decide))).trans pf1
          have pf2 := (h1v23941 _ _ (Or.inr (by decide))).trans pf2
          have pf8 := (h1v23941 _ _ (Or.inr (by decide))).trans pf8
          have pf9 := (h1v23941 _ _ (Or.inr (by decide))).trans pf9
          have pf10 := (h1v23941 _ _ (Or.inr (by decide))).trans pf10
          have pf11 := (h1v23941 _ _ (Or.inr (by decide))).trans pf11
          have qsoz23907 := (h1v23941 _ _ (Or.inr (by decide))).trans qsoz23907
          have qspz23907 := (h1v23941 _ _ (Or.inr (by decide))).trans qspz23907
          have qfaz23907 := (h1v23941 _ _ (Or.inr (by decide))).trans qfaz23907
          have qz23917 := (h1v23941 _ _ (Or.inr (by decide))).trans qz23917
          have hv23919 := (h1v23941 _ _ (Or.inr (by decide))).trans hv23919
          have hv23923 := (h1v23941 _ _ (Or.inr (by decide))).trans hv23923
          have hv23927 := (h1v23941 _ _ (Or.inr (by decide))).trans hv23927
          have hv23931 := (h1v23941 _ _ (Or.inr (by decide))).trans hv23931
          have hv23935 := (h1v23941 _ _ (Or.inr (by decide))).trans hv23935
          have v23937 := (h2v23941 _ _).trans v23937
          have hfr : (∀ b j : Nat, (tag b ≠ 44 ∨ j ≠ 7) → (tag b ≠ 44 ∨ j ≠ 12) → (tag b ≠ 46 ∨ j ≠ 8) → (tag b ≠ 46 ∨ j ≠ 9) → (tag b ≠ 46 ∨ j ≠ 10) → (tag b ≠ 46 ∨ j ≠ 11) → (tag b ≠ 46 ∨ j ≠ 12) → (tag b ≠ 46 ∨ j ≠ 13) → (tag b ≠ 46 ∨ j ≠ 14) → (tag b ≠ 46 ∨ j ≠ 15) → fld F b j = fld Fo b j) ∧ (∀ b j : Nat, tag b ≠ 29 → tag b ≠ 34 → tag b ≠ 35 → tag b ≠ 36 → elm F b j = elm Fo b j) := ⟨fun b j n44_7 n44_12 n46_8 n46_9 n46_10 n46_11 n46_12 n46_13 n46_14 n46_15 => (h1v23941 b j (fr_ne gx0 n44_7)).trans (hfr.1 b j n44_7 n44_12 n46_8 n46_9 n46_10 n46_11 n46_12 n46_13 n46_14 n46_15), fun b j a29 a34 a35 a36 => (h2v23941 b j).trans (hfr.2 b j a29 a34 a35 a36)⟩
          have hrel := msr_of (fun j => h2v23941 _ j) (fun j => h2v23941 _ j) hrel
          have hpu9 := hpl
          unfold PLr at hpu9
          have hpl : PLr z23917 z23940 x8 x9 x10 x11 := ⟨by omega, fun _ => by omega⟩
          exact t_vret hQ X hT ⟨hfr, hrel, ⟨soz23907, spz23907, faz23907, qsoz23907, qspz23907, qfaz23907, (by omega), (by omega), (by omega), hstk, hspt, hkf⟩, ⟨z23917, z23940, x8, x9, x10, x11, qz23917, v23941, pf8, pf9, pf10, pf11, (by omega), (by omega), (by omega), (by omega), (by omega), (by omega), hpl⟩⟩ (Nat.le_of_ble_eq_true rfl) (Nat.le_of_ble_eq_true rfl) dX13_readStone_221
        · have w23942 := cv_eq (rfl : soz23907.toInt = soz23907.toInt) (by decide : (5 : Int32).toInt = 5) c23909
          exact t_vret hQ X hT ⟨hfr, hrel, ⟨soz23907, spz23907, faz23907, qsoz23907, qspz23907, qfaz23907, (by omega), (by omega), (by omega), hstk, hspt, hkf⟩, ⟨x6, x7, x8, x9, x10, x11, pf6, pf7, pf8, pf9, pf10, pf11, (by omega), (by omega), (by omega), (by omega), (by omega), (by omega), hpl⟩⟩ (Nat.le_of_ble_eq_true rfl) (Nat.le_of_ble_eq_true rfl) dX13_readStone_131
    · have w23943 := cv_ne (rfl : z23886.toInt = z23886.toInt) (by decide : (0 : Int32).toInt = 0) c23887
      refine lv_iconst (v := 1) hx hb dX13_readStone_41 (by decide) ?_
      refine lv_goto (tgt := 60) hx hb dX13_readStone_42 (by decide) ?_
      refine lv_istore_n (lv' := [(3, .int 1), (1, .long z23882), (0, .ref p0)]) hx hb dX13_readStone_60 rfl hl (by decide) rfl (fun ls hl => ?_)
      refine lv_iload_n hx hb dX13_readStone_61 rfl (lv_at hl 0 rfl) ?_
      refine lv_iconst (v := (-1)) hx hb dX13_readStone_62 (by decide) ?_
      refine lv_icmp_ne (tgt := 71) hx hb dX13_readStone_63 (by decide) (fun _ => ?_) (fun c9 => absurd c9 (by decide))
      refine lv_aload_n hx hb dX13_readStone_71 rfl (lv_at hl 2 rfl) ?_
      refine t_cVv (n := 0) (C := RX13) (T := TX13) (N := 37) (As := []) (rest := []) X hT (km14_X13_goesOn l G tag L F hT.2.2.2 p0 x0 x1 x2 soz23882 spz23882 faz23882 m0 g0 mx0 gx0 pf0 mx1 gx1 pf1 mx2 gx2 pf2 (by omega) qsoz23882 (by omega) qspz23882 (by omega) qfaz23882 hkf) m0 g0 rfl rfl qw_508 qw_509 qw_510 qw_5 qw_511 ⟨rfl, by decide +kernel, by decide +kernel, by decide +kernel⟩ ⟨Nat.le_of_ble_eq_true rfl, Nat.le_of_ble_eq_true rfl⟩ hl rfl rfl (Nat.le_of_ble_eq_true rfl) dX13_readStone_72 ⟨Nat.le_of_ble_eq_true rfl, Nat.le_of_ble_eq_true rfl⟩ (fun F H locs hT hz23944 => ?_)
      obtain ⟨yz23944, ⟨soz23944, spz23944, faz23944, qsoz23944, qspz23944, qfaz23944, rsoz23944, rspz23944, rfaz23944, stz23944, ptz23944, hkf⟩⟩ := hz23944
      have pf0 := (yz23944.1 _ 4 (Or.inr (by decide)) (Or.inr (by decide)) (Or.inr (by decide)) (Or.inr (by decide)) (Or.inr (by decide)) (Or.inr (by decide))).trans pf0
      have pf1 := (yz23944.1 _ 28 (Or.inr (by decide)) (Or.inr (by decide)) (Or.inr (by decide)) (Or.inr (by decide)) (Or.inr (by decide)) (Or.inr (by decide))).trans pf1
      have pf2 := (yz23944.1 _ 29 (Or.inr (by decide)) (Or.inr (by decide)) (Or.inr (by decide)) (Or.inr (by decide)) (Or.inr (by decide)) (Or.inr (by decide))).trans pf2
      have pf6 := (yz23944.1 _ 12 (Or.inr (by decide)) (Or.inr (by decide)) (Or.inr (by decide)) (Or.inr (by decide)) (Or.inl (by rw [gx0]; decide)) (Or.inr (by decide))).trans pf6
      have pf7 := (yz23944.1 _ 7 (Or.inr (by decide)) (Or.inr (by decide)) (Or.inr (by decide)) (Or.inr (by decide)) (Or.inr (by decide)) (Or.inr (by decide))).trans pf7
      have pf8 := (yz23944.1 _ 8 (Or.inl (by rw [gx0]; decide)) (Or.inr (by decide)) (Or.inr (by decide)) (Or.inr (by decide)) (Or.inr (by decide)) (Or.inr (by decide))).trans pf8
      have pf9 := (yz23944.1 _ 9 (Or.inr (by decide)) (Or.inl (by rw [gx0]; decide)) (Or.inr (by decide)) (Or.inr (by decide)) (Or.inr (by decide)) (Or.inr (by decide))).trans pf9
      have pf10 := (yz23944.1 _ 10 (Or.inr (by decide)) (Or.inr (by decide)) (Or.inl (by rw [gx0]; decide)) (Or.inr (by decide)) (Or.inr (by decide)) (Or.inr (by decide))).trans pf10
      have pf11 := (yz23944.1 _ 0 (Or.inr (by decide)) (Or.inr (by decide)) (Or.inr (by decide)) (Or.inr (by decide)) (Or.inr (by decide)) (Or.inr (by decide))).trans pf11
      have qfaz23882 := (yz23944.1 _ 13 (Or.inr (by decide)) (Or.inr (by decide)) (Or.inr (by decide)) (Or.inr (by decide)) (Or.inr (by decide)) (Or.inr (by decide))).trans qfaz23882
      have hfr : (∀ b j : Nat, (tag b ≠ 44 ∨ j ≠ 7) → (tag b ≠ 44 ∨ j ≠ 12) → (tag b ≠ 46 ∨ j ≠ 8) → (tag b ≠ 46 ∨ j ≠ 9) → (tag b ≠ 46 ∨ j ≠ 10) → (tag b ≠ 46 ∨ j ≠ 11) → (tag b ≠ 46 ∨ j ≠ 12) → (tag b ≠ 46 ∨ j ≠ 13) → (tag b ≠ 46 ∨ j ≠ 14) → (tag b ≠ 46 ∨ j ≠ 15) → fld F b j = fld Fo b j) ∧ (∀ b j : Nat, tag b ≠ 29 → tag b ≠ 34 → tag b ≠ 35 → tag b ≠ 36 → elm F b j = elm Fo b j) := ⟨fun b j n44_7 n44_12 n46_8 n46_9 n46_10 n46_11 n46_12 n46_13 n46_14 n46_15 => (yz23944.1 b j n46_8 n46_9 n46_10 n46_11 n46_12 n46_15).trans (hfr.1 b j n44_7 n44_12 n46_8 n46_9 n46_10 n46_11 n46_12 n46_13 n46_14 n46_15), fun b j a29 a34 a35 a36 => (yz23944.2 b j ).trans (hfr.2 b j a29 a34 a35 a36)⟩
      have hrel := msr_of (fun j => yz23944.2 _ j ) (fun j => yz23944.2 _ j ) hrel
      have hstk := STK.tr hstk stz23944
      have hspt := SPT.tr hspt ptz23944
      refine lv_aload_n hx hb dX13_readStone_75 rfl (lv_at hl 2 rfl) ?_
      refine m_ldcKw X 64 rfl dX13_readStone_76 ?_
      refine lv_iconst (v := 1) hx hb dX13_readStone_79 (by decide) ?_
      refine lv_bipush (v := 9) hx hb dX13_readStone_80 (by decide) ?_
      refine t_cVi (n := 3) (C := RX13) (T := TX13) (N := 37) (As := [.ref (G.2 (100 + 64)), .int 1, .int 9]) (rest := []) X hT (km62_X13_readPart l G tag L F hT.2.2.2 p0 64 1 9 x0 x1 x2 soz23944 spz23944 faz23944 m0 g0 (by decide) (by decide) (by decide) mx0 gx0 pf0 mx1 gx1 pf1 mx2 gx2 pf2 (by omega) qsoz23944 (by omega) qspz23944 (by omega) qfaz23944 hkf) m0 g0 rfl rfl qw_552 qw_553 qw_554 qw_5 qw_555 ⟨rfl, by decide +kernel, by decide +kernel, by decide +kernel⟩ ⟨Nat.le_of_ble_eq_true rfl, Nat.le_of_ble_eq_true rfl⟩ hl rfl rfl (Nat.le_of_ble_eq_true rfl) dX13_readStone_82 ⟨Nat.le_of_ble_eq_true rfl, Nat.le_of_ble_eq_true rfl⟩ (fun z23945 F H locs hT hz23945 => ?_)
      obtain ⟨hz23945, yz23945, ⟨soz23945, spz23945, faz23945, qsoz23945, qspz23945, qfaz23945, rsoz23945, rspz23945, rfaz23945, stz23945, ptz23945, hkf⟩⟩ := hz23945
      have pf0 := (yz23945.1 _ 4 (Or.inr (by decide)) (Or.inr (by decide)) (Or.inr (by decide)) (Or.inr (by decide)) (Or.inr (by decide)) (Or.inr (by decide)) (Or.inr (by decide)) (Or.inr (by decide))).trans pf0
      have pf1 := (yz23945.1 _ 28 (Or.inr (by decide)) (Or.inr (by decide)) (Or.inr (by decide)) (Or.inr (by decide)) (Or.inr (by decide)) (Or.inr (by decide)) (Or.inr (by decide)) (Or.inr (by decide))).trans pf1
      have pf2 := (yz23945.1 _ 29 (Or.inr (by decide)) (Or.inr (by decide)) (Or.inr (by decide)) (Or.inr (by decide)) (Or.inr (by decide)) (Or.inr (by decide)) (Or.inr (by decide)) (Or.inr (by decide))).trans pf2
      have pf6 := (yz23945.1 _ 12 (Or.inr (by decide)) (Or.inr (by decide)) (Or.inr (by decide)) (Or.inr (by decide)) (Or.inl (by rw [gx0]; decide)) (Or.inr (by decide)) (Or.inr (by decide)) (Or.inr (by decide))).trans pf6
      have pf7 := (yz23945.1 _ 7 (Or.inr (by decide)) (Or.inr (by decide)) (Or.inr (by decide)) (Or.inr (by decide)) (Or.inr (by decide)) (Or.inr (by decide)) (Or.inr (by decide)) (Or.inr (by decide))).trans pf7
      have pf8 := (yz23945.1 _ 8 (Or.inl (by rw [gx0]; decide)) (Or.inr (by decide)) (Or.inr (by decide)) (Or.inr (by decide)) (Or.inr (by decide)) (Or.inr (by decide)) (Or.inr (by decide)) (Or.inr (by decide))).trans pf8
      have pf9 := (yz23945.1 _ 9 (Or.inr (by decide)) (Or.inl (by rw [gx0]; decide)) (Or.inr (by decide)) (Or.inr (by decide)) (Or.inr (by decide)) (Or.inr (by decide)) (Or.inr (by decide)) (Or.inr (by decide))).trans pf9
      have pf10 := (yz23945.1 _ 10 (Or.inr (by decide)) (Or.inr (by decide)) (Or.inl (by rw [gx0]; decide)) (Or.inr (by decide)) (Or.inr (by decide)) (Or.inr (by decide)) (Or.inr (by decide)) (Or.inr (by decide))).trans pf10
      have pf11 := (yz23945.1 _ 0 (Or.inr (by decide)) (Or.inr (by decide)) (Or.inr (by decide)) (Or.inr (by decide)) (Or.inr (by decide)) (Or.inr (by decide)) (Or.inr (by decide)) (Or.inr (by decide))).trans pf11
      have hfr : (∀ b j : Nat, (tag b ≠ 44 ∨ j ≠ 7) → (tag b ≠ 44 ∨ j ≠ 12) → (tag b ≠ 46 ∨ j ≠ 8) → (tag b ≠ 46 ∨ j ≠ 9) → (tag b ≠ 46 ∨ j ≠ 10) → (tag b ≠ 46 ∨ j ≠ 11) → (tag b ≠ 46 ∨ j ≠ 12) → (tag b ≠ 46 ∨ j ≠ 13) → (tag b ≠ 46 ∨ j ≠ 14) → (tag b ≠ 46 ∨ j ≠ 15) → fld F b j = fld Fo b j) ∧ (∀ b j : Nat, tag b ≠ 29 → tag b ≠ 34 → tag b ≠ 35 → tag b ≠ 36 → elm F b j = elm Fo b j) := ⟨fun b j n44_7 n44_12 n46_8 n46_9 n46_10 n46_11 n46_12 n46_13 n46_14 n46_15 => (yz23945.1 b j n46_8 n46_9 n46_10 n46_11 n46_12 n46_13 n46_14 n46_15).trans (hfr.1 b j n44_7 n44_12 n46_8 n46_9 n46_10 n46_11 n46_12 n46_13 n46_14 n46_15), fun b j a29 a34 a35 a36 => (yz23945.2 b j ).trans (hfr.2 b j a29 a34 a35 a36)⟩
      have hrel := msr_of (fun j => yz23945.2 _ j ) (fun j => yz23945.2 _ j ) hrel
      have hstk := STK.tr hstk stz23945
      have hspt := SPT.tr hspt ptz23945
      refine lv_istore (lv' := [(4, .int z23945), (3, .int 1), (1, .long z23882), (0, .ref p0)]) hx hb dX13_readStone_85 hl (by decide) rfl (fun ls hl => ?_)
      refine lv_aload_n hx hb dX13_readStone_87 rfl (lv_at hl 3 rfl) ?_
      refine m_ldcKw X 65 rfl dX13_readStone_88 ?_
      refine lv_iconst (v := 0) hx hb dX13_readStone_91 (by decide) ?_
      refine lv_bipush (v := 9) hx hb dX13_readStone_92 (by decide) ?_
      refine t_cVi (n := 3) (C := RX13) (T := TX13) (N := 37) (As := [.ref (G.2 (100 + 65)), .int 0, .int 9]) (rest := []) X hT (km63_X13_readPart l G tag L F hT.2.2.2 p0 65 0 9 x0 x1 x2 soz23945 spz23945 faz23945 m0 g0 (by decide) (by decide) (by decide) mx0 gx0 pf0 mx1 gx1 pf1 mx2 gx2 pf2 (by omega) qsoz23945 (by omega) qspz23945 (by omega) qfaz23945 hkf) m0 g0 rfl rfl qw_552 qw_553 qw_554 qw_5 qw_555 ⟨rfl, by decide +kernel, by decide +kernel, by decide +kernel⟩ ⟨Nat.le_of_ble_eq_true rfl, Nat.le_of_ble_eq_true rfl⟩ hl rfl rfl (Nat.le_of_ble_eq_true rfl) dX13_readStone_94 ⟨Nat.le_of_ble_eq_true rfl, Nat.le_of_ble_eq_true rfl⟩ (fun z23946 F H locs hT hz23946 => ?_)
      obtain ⟨hz23946, yz23946, ⟨soz23946, spz23946, faz23946, qsoz23946, qspz23946, qfaz23946, rsoz23946, rspz23946, rfaz23946, stz23946, ptz23946, hkf⟩⟩ := hz23946
      have pf0 := (yz23946.1 _ 4 (Or.inr (by decide)) (Or.inr (by decide)) (Or.inr (by decide)) (Or.inr (by decide)) (Or.inr (by decide)) (Or.inr (by decide)) (Or.inr (by decide)) (Or.inr (by decide))).trans pf0
      have pf1 := (yz23946.1 _ 28 (Or.inr (by decide)) (Or.inr (by decide)) (Or.inr (by decide)) (Or.inr (by decide)) (Or.inr (by decide)) (Or.inr (by decide)) (Or.inr (by decide)) (Or.inr (by decide))).trans pf1
      have pf2 := (yz23946.1 _ 29 (Or.inr (by decide)) (Or.inr (by decide)) (Or.inr (by decide)) (Or.inr (by decide)) (Or.inr (by decide)) (Or.inr (by decide)) (Or.inr (by decide)) (Or.inr (by decide))).trans pf2
      have pf6 := (yz23946.1 _ 12 (Or.inr (by decide)) (Or.inr (by decide)) (Or.inr (by decide)) (Or.inr (by decide)) (Or.inl (by rw [gx0]; decide)) (Or.inr (by decide)) (Or.inr (by decide)) (Or.inr (by decide))).trans pf6
      have pf7 := (yz23946.1 _ 7 (Or.inr (by decide)) (Or.inr (by decide)) (Or.inr (by decide)) (Or.inr (by decide)) (Or.inr (by decide)) (Or.inr (by decide)) (Or.inr (by decide)) (Or.inr (by decide))).trans pf7
      have pf8 := (yz23946.1 _ 8 (Or.inl (by rw [gx0]; decide)) (Or.inr (by decide)) (Or.inr (by decide)) (Or.inr (by decide)) (Or.inr (by decide)) (Or.inr (by decide)) (Or.inr (by decide)) (Or.inr (by decide))).trans pf8
      have pf9 := (yz23946.1 _ 9 (Or.inr (by decide)) (Or.inl (by rw [gx0]; decide)) (Or.inr (by decide)) (Or.inr (by decide)) (Or.inr (by decide)) (Or.inr (by decide)) (Or.inr (by decide)) (Or.inr (by decide))).trans pf9
      have pf10 := (yz23946.1 _ 10 (Or.inr (by decide)) (Or.inr (by decide)) (Or.inl (by rw [gx0]; decide)) (Or.inr (by decide)) (Or.inr (by decide)) (Or.inr (by decide)) (Or.inr (by decide)) (Or.inr (by decide))).trans pf10
      have pf11 := (yz23946.1 _ 0 (Or.inr (by decide)) (Or.inr (by decide)) (Or.inr (by decide)) (Or.inr (by decide)) (Or.inr (by decide)) (Or.inr (by decide)) (Or.inr (by decide)) (Or.inr (by decide))).trans pf11
      have hfr : (∀ b j : Nat, (tag b ≠ 44 ∨ j ≠ 7) → (tag b ≠ 44 ∨ j ≠ 12) → (tag b ≠ 46 ∨ j ≠ 8) → (tag b ≠ 46 ∨ j ≠ 9) → (tag b ≠ 46 ∨ j ≠ 10) → (tag b ≠ 46 ∨ j ≠ 11) → (tag b ≠ 46 ∨ j ≠ 12) → (tag b ≠ 46 ∨ j ≠ 13) → (tag b ≠ 46 ∨ j ≠ 14) → (tag b ≠ 46 ∨ j ≠ 15) → fld F b j = fld Fo b j) ∧ (∀ b j : Nat, tag b ≠ 29 → tag b ≠ 34 → tag b ≠ 35 → tag b ≠ 36 → elm F b j = elm Fo b j) := ⟨fun b j n44_7 n44_12 n46_8 n46_9 n46_10 n46_11 n46_12 n46_13 n46_14 n46_15 => (yz23946.1 b j n46_8 n46_9 n46_10 n46_11 n46_12 n46_13 n46_14 n46_15).trans (hfr.1 b j n44_7 n44_12 n46_8 n46_9 n46_10 n46_11 n46_12 n46_13 n46_14 n46_15), fun b j a29 a34 a35 a36 => (yz23946.2 b j ).trans (hfr.2 b j a29 a34 a35 a36)⟩
      have hrel := msr_of (fun j => yz23946.2 _ j ) (fun j => yz23946.2 _ j ) hrel
      have hstk := STK.tr hstk stz23946
      have hspt := SPT.tr hspt ptz23946
      refine lv_istore (lv' := [(5, .int z23946), (4, .int z23945), (3, .int 1), (1, .long z23882), (0, .ref p0)]) hx hb dX13_readStone_97 hl (by decide) rfl (fun ls hl => ?_)
      refine lv_aload_n hx hb dX13_readStone_99 rfl (lv_at hl 4 rfl) ?_
      refine m_ldcKw X 66 rfl dX13_readStone_100 ?_
      refine lv_iconst (v := 0) hx hb dX13_readStone_103 (by decide) ?_
      refine lv_bipush (v := 9) hx hb dX13_readStone_104 (by decide) ?_
      refine t_cVi (n := 3) (C := RX13) (T := TX13) (N := 37) (As := [.ref (G.2 (100 + 66)), .int 0, .int 9]) (rest := []) X hT (km63_X13_readPart l G tag L F hT.2.2.2 p0 66 0 9 x0 x1 x2 soz23946 spz23946 faz23946 m0 g0 (by decide) (by decide) (by decide) mx0 gx0 pf0 mx1 gx1 pf1 mx2 gx2 pf2 (by omega) qsoz23946 (by omega) qspz23946 (by omega) qfaz23946 hkf) m0 g0 rfl rfl qw_552 qw_553 qw_554 qw_5 qw_555 ⟨rfl, by decide +kernel, by decide +kernel, by decide +kernel⟩ ⟨Nat.le_of_ble_eq_true rfl, Nat.le_of_ble_eq_true rfl⟩ hl rfl rfl (Nat.le_of_ble_eq_true rfl) dX13_readStone_106 ⟨Nat.le_of_ble_eq_true rfl, Nat.le_of_ble_eq_true rfl⟩ (fun z23947 F H locs hT hz23947 => ?_)
      obtain ⟨hz23947, yz23947, ⟨soz23947, spz23947, faz23947, qsoz23947, qspz23947, qfaz23947, rsoz23947, rspz23947, rfaz23947, stz23947, ptz23947, hkf⟩⟩ := hz23947
      have pf0 := (yz23947.1 _ 4 (Or.inr (by decide)) (Or.inr (by decide)) (Or.inr (by decide)) (Or.inr (by decide)) (Or.inr (by decide)) (Or.inr (by decide)) (Or.inr (by decide)) (Or.inr (by decide))).trans pf0
      have pf1 := (yz23947.1 _ 28 (Or.inr (by decide)) (Or.inr (by decide)) (Or.inr (by decide)) (Or.inr (by decide)) (Or.inr (by decide)) (Or.inr (by decide)) (Or.inr (by decide)) (Or.inr (by decide))).trans pf1
      have pf2 := (yz23947.1 _ 29 (Or.inr (by decide)) (Or.inr (by decide)) (Or.inr (by decide)) (Or.inr (by decide)) (Or.inr (by decide)) (Or.inr (by decide)) (Or.inr (by decide)) (Or.inr (by decide))).trans pf2
      have pf6 := (yz23947.1 _ 12 (Or.inr (by decide)) (Or.inr (by decide)) (Or.inr (by decide)) (Or.inr (by decide)) (Or.inl (by rw [gx0]; decide)) (Or.inr (by decide)) (Or.inr (by decide)) (Or.inr (by decide))).trans pf6
      have pf7 := (yz23947.1 _ 7 (Or.inr (by decide)) (Or.inr (by decide)) (Or.inr (by decide)) (Or.inr (by decide)) (Or.inr (by decide)) (Or.inr (by decide)) (Or.inr (by decide)) (Or.inr (by decide))).trans pf7
      have pf8 := (yz23947.1 _ 8 (Or.inl (by rw [gx0]; decide)) (Or.inr (by decide)) (Or.inr (by decide)) (Or.inr (by decide)) (Or.inr (by decide)) (Or.inr (by decide)) (Or.inr (by decide)) (Or.inr (by decide))).trans pf8
      have pf9 := (yz23947.1 _ 9 (Or.inr (by decide)) (Or.inl (by rw [gx0]; decide)) (Or.inr (by decide)) (Or.inr (by decide)) (Or.inr (by decide)) (Or.inr (by decide)) (Or.inr (by decide)) (Or.inr (by decide))).trans pf9
      have pf10 := (yz23947.1 _ 10 (Or.inr (by decide)) (Or.inr (by decide)) (Or.inl (by rw [gx0]; decide)) (Or.inr (by decide)) (Or.inr (by decide)) (Or.inr (by decide)) (Or.inr (by decide)) (Or.inr (by decide))).trans pf10
      have pf11 := (yz23947.1 _ 0 (Or.inr (by decide)) (Or.inr (by decide)) (Or.inr (by decide)) (Or.inr (by decide)) (Or.inr (by decide)) (Or.inr (by decide)) (Or.inr (by decide)) (Or.inr (by decide))).trans pf11
      have hfr : (∀ b j : Nat, (tag b ≠ 44 ∨ j ≠ 7) → (tag b ≠ 44 ∨ j ≠ 12) → (tag b ≠ 46 ∨ j ≠ 8) → (tag b ≠ 46 ∨ j ≠ 9) → (tag b ≠ 46 ∨ j ≠ 10) → (tag b ≠ 46 ∨ j ≠ 11) → (tag b ≠ 46 ∨ j ≠ 12) → (tag b ≠ 46 ∨ j ≠ 13) → (tag b ≠ 46 ∨ j ≠ 14) → (tag b ≠ 46 ∨ j ≠ 15) → fld F b j = fld Fo b j) ∧ (∀ b j : Nat, tag b ≠ 29 → tag b ≠ 34 → tag b ≠ 35 → tag b ≠ 36 → elm F b j = elm Fo b j) := ⟨fun b j n44_7 n44_12 n46_8 n46_9 n46_10 n46_11 n46_12 n46_13 n46_14 n46_15 => (yz23947.1 b j n46_8 n46_9 n46_10 n46_11 n46_12 n46_13 n46_14 n46_15).trans (hfr.1 b j n44_7 n44_12 n46_8 n46_9 n46_10 n46_11 n46_12 n46_13 n46_14 n46_15), fun b j a29 a34 a35 a36 => (yz23947.2 b j ).trans (hfr.2 b j a29 a34 a35 a36)⟩
      have hrel := msr_of (fun j => yz23947.2 _ j ) (fun j => yz23947.2 _ j ) hrel
      have hstk := STK.tr hstk stz23947
      have hspt := SPT.tr hspt ptz23947
      refine lv_istore (lv' := [(6, .int z23947), (5, .int z23946), (4, .int z23945), (3, .int 1), (1, .long z23882), (0, .ref p0)]) hx hb dX13_readStone_109 hl (by decide) rfl (fun ls hl => ?_)
      refine lv_aload_n hx hb dX13_readStone_111 rfl (lv_at hl 5 rfl) ?_
      refine m_ldcKw X 67 rfl dX13_readStone_112 ?_
      refine lv_iconst (v := 1) hx hb dX13_readStone_115 (by decide) ?_
      refine lv_bipush (v := 99) hx hb dX13_readStone_116 (by decide) ?_
      refine t_cVi (n := 3) (C := RX13) (T := TX13) (N := 37) (As := [.ref (G.2 (100 + 67)), .int 1, .int 99]) (rest := []) X hT (km66_X13_readPart l G tag L F hT.2.2.2 p0 67 1 99 x0 x1 x2 soz23947 spz23947 faz23947 m0 g0 (by decide) (by decide) (by decide) mx0 gx0 pf0 mx1 gx1 pf1 mx2 gx2 pf2 (by omega) qsoz23947 (by omega) qspz23947 (by omega) qfaz23947 hkf) m0 g0 rfl rfl qw_552 qw_553 qw_554 qw_5 qw_555 ⟨rfl, by decide +kernel, by decide +kernel, by decide +kernel⟩ ⟨Nat.le_of_ble_eq_true rfl, Nat.le_of_ble_eq_true rfl⟩ hl rfl rfl (Nat.le_of_ble_eq_true rfl) dX13_readStone_118 ⟨Nat.le_of_ble_eq_true rfl, Nat.le_of_ble_eq_true rfl⟩ (fun z23948 F H locs hT hz23948 => ?_)
      obtain ⟨hz23948, yz23948, ⟨soz23948, spz23948, faz23948, qsoz23948, qspz23948, qfaz23948, rsoz23948, rspz23948, rfaz23948, stz23948, ptz23948, hkf⟩⟩ := hz23948
      have pf0 := (yz23948.1 _ 4 (Or.inr (by decide)) (Or.inr (by decide)) (Or.inr (by decide)) (Or.inr (by decide)) (Or.inr (by decide)) (Or.inr (by decide)) (Or.inr (by decide)) (Or.inr (by decide))).trans pf0
      have pf1 := (yz23948.1 _ 28 (Or.inr (by decide)) (Or.inr (by decide)) (Or.inr (by decide)) (Or.inr (by decide)) (Or.inr (by decide)) (Or.inr (by decide)) (Or.inr (by decide)) (Or.inr (by decide))).trans pf1
      have pf2 := (yz23948.1 _ 29 (Or.inr (by decide)) (Or.inr (by decide)) (Or.inr (by decide)) (Or.inr (by decide)) (Or.inr (by decide)) (Or.inr (by decide)) (Or.inr (by decide)) (Or.inr (by decide))).trans pf2
      have pf6 := (yz23948.1 _ 12 (Or.inr (by decide)) (Or.inr (by decide)) (Or.inr (by decide)) (Or.inr (by decide)) (Or.inl (by rw [gx0]; decide)) (Or.inr (by decide)) (Or.inr (by decide)) (Or.inr (by decide))).trans pf6
      have pf7 := (yz23948.1 _ 7 (Or.inr (by decide)) (Or.inr (by decide)) (Or.inr (by decide)) (Or.inr (by decide)) (Or.inr (by decide)) (Or.inr (by decide)) (Or.inr (by decide)) (Or.inr (by decide))).trans pf7
      have pf8 := (yz23948.1 _ 8 (Or.inl (by rw [gx0]; decide)) (Or.inr (by decide)) (Or.inr (by decide)) (Or.inr (by decide)) (Or.inr (by decide)) (Or.inr (by decide)) (Or.inr (by decide)) (Or.inr (by decide))).trans pf8
      have pf9 := (yz23948.1 _ 9 (Or.inr (by decide)) (Or.inl (by rw [gx0]; decide)) (Or.inr (by decide)) (Or.inr (by decide)) (Or.inr (by decide)) (Or.inr (by decide)) (Or.inr (by decide)) (Or.inr (by decide))).trans pf9
      have pf10 := (yz23948.1 _ 10 (Or.inr (by decide)) (Or.inr (by decide)) (Or.inl (by rw [gx0]; decide)) (Or.inr (by decide)) (Or.inr (by decide)) (Or.inr (by decide)) (Or.inr (by decide)) (Or.inr (by decide))).trans pf10
      have pf11 := (yz23948.1 _ 0 (Or.inr (by decide)) (Or.inr (by decide)) (Or.inr (by decide)) (Or.inr (by decide)) (Or.inr (by decide)) (Or.inr (by decide)) (Or.inr (by decide)) (Or.inr (by decide))).trans pf11
      have hfr : (∀ b j : Nat, (tag b ≠ 44 ∨ j ≠ 7) → (tag b ≠ 44 ∨ j ≠ 12) → (tag b ≠ 46 ∨ j ≠ 8) → (tag b ≠ 46 ∨ j ≠ 9) → (tag b ≠ 46 ∨ j ≠ 10) → (tag b ≠ 46 ∨ j ≠ 11) → (tag b ≠ 46 ∨ j ≠ 12) → (tag b ≠ 46 ∨ j ≠ 13) → (tag b ≠ 46 ∨ j ≠ 14) → (tag b ≠ 46 ∨ j ≠ 15) → fld F b j = fld Fo b j) ∧ (∀ b j : Nat, tag b ≠ 29 → tag b ≠ 34 → tag b ≠ 35 → tag b ≠ 36 → elm F b j = elm Fo b j) := ⟨fun b j n44_7 n44_12 n46_8 n46_9 n46_10 n46_11 n46_12 n46_13 n46_14 n46_15 => (yz23948.1 b j n46_8 n46_9 n46_10 n46_11 n46_12 n46_13 n46_14 n46_15).trans (hfr.1 b j n44_7 n44_12 n46_8 n46_9 n46_10 n46_11 n46_12 n46_13 n46_14 n46_15), fun b j a29 a34 a35 a36 => (yz23948.2 b j ).trans (hfr.2 b j a29 a34 a35 a36)⟩
      have hrel := msr_of (fun j => yz23948.2 _ j ) (fun j => yz23948.2 _ j ) hrel
      have hstk := STK.tr hstk stz23948
      have hspt := SPT.tr hspt ptz23948
      refine lv_istore (lv' := [(7, .int z23948), (6, .int z23947), (5, .int z23946), (4, .int z23945), (3, .int 1), (1, .long z23882), (0, .ref p0)]) hx hb dX13_readStone_121 hl (by decide) rfl (fun ls hl => ?_)
      refine lv_aload_n hx hb dX13_readStone_123 rfl (lv_at hl 6 rfl) ?_
      refine t_get (C := RX13) (T := TX13) (N := 37) X hT m0 g0 rfl rfl 9 (by decide) qw_478 inlX13 rfl dX13_readStone_124 (fun v23949 hv23949 ov23949 => ?_)
      obtain rfl : v23949 = .int soz23948 := hv23949.symm.trans qsoz23948
      refine lv_iconst (v := 5) hx hb dX13_readStone_127 (by decide) ?_
      refine lv_icmp_ne (tgt := 132) hx hb dX13_readStone_128 (by decide) (fun c23950 => ?_) (fun c23950 => ?_)
      · have w23951 := cv_ne (rfl : soz23948.toInt = soz23948.toInt) (by decide : (5 : Int32).toInt = 5) c23950
        have w23952 := (fun (h9 : soz23948.toInt ≠ 5) => (fun (h9 : soz23947.toInt ≠ 5) => (fun (h9 : soz23946.toInt ≠ 5) => (fun (h9 : soz23945.toInt ≠ 5) => (fun (h9 : soz23944.toInt ≠ 5) => (fun (h9 : soz23882.toInt ≠ 5) => pxz23880_0 (fun e9 => h9 (stz23882 e9))) (fun e9 => h9 (stz23944 e9))) (fun e9 => h9 (stz23945 e9))) (fun e9 => h9 (stz23946 e9))) (fun e9 => h9 (stz23947 e9))) (fun e9 => h9 (stz23948 e9))) (by omega)
        have w23953 := (fun (h9 : soz23948.toInt ≠ 5) => (fun (h9 : soz23947.toInt ≠ 5) => (fun (h9 : soz23946.toInt ≠ 5) => (fun (h9 : soz23945.toInt ≠ 5) => (fun (h9 : soz23944.toInt ≠ 5) => (fun (h9 : soz23882.toInt ≠ 5) => pxz23880_0 (fun e9 => h9 (stz23882 e9))) (fun e9 => h9 (stz23944 e9))) (fun e9 => h9 (stz23945 e9))) (fun e9 => h9 (stz23946 e9))) (fun e9 => h9 (stz23947 e9))) (fun e9 => h9 (stz23948 e9))) (by omega)
        refine lv_aload_n hx hb dX13_readStone_132 rfl (lv_at hl 6 rfl) ?_
        refine t_get (C := RX13) (T := TX13) (N := 37) X hT m0 g0 rfl rfl 4 (by decide) qw_477 inlX13 rfl dX13_readStone_133 (fun v23954 hv23954 ov23954 => ?_)
        obtain rfl : v23954 = .ref x0 := hv23954.symm.trans pf0
        refine t_getN (C := RX12) (T := TX12) (N := 31) X hT mx0 gx0 rfl rfl 7 (by decide) (List.mem_of_getElem? (i := 11) rfl) inlX12 rfl dX13_readStone_136 (fun v23955 hv23955 ov23955 => ?_)
        obtain rfl : v23955 = .int x7 := hv23955.symm.trans pf7
        refine lv_istore (lv' := [(8, .int x7), (7, .int z23948), (6, .int z23947), (5, .int z23946), (4, .int z23945), (3, .int 1), (1, .long z23882), (0, .ref p0)]) hx hb dX13_readStone_139 hl (by decide) rfl (fun ls hl => ?_)
        refine lv_aload_n hx hb dX13_readStone_141 rfl (lv_at hl 7 rfl) ?_
        refine lv_lload_n hx hb dX13_readStone_142 rfl (lv_at hl 6 rfl) ?_
        refine lv_iconst (v := 0) hx hb dX13_readStone_143 (by decide) ?_
        refine lv_iload hx hb dX13_readStone_144 (lv_at hl 0 rfl) ?_
        have w23956 : 0 ≤ x6.toInt ∧ x6.toInt ≤ 20 := by omega
        refine t_cVv (n := 3) (C := RX13) (T := TX13) (N := 37) (As := [.long z23882, .int 0, .int x7]) (rest := []) X hT (km67_X13_names l G tag L F hT.2.2.2 p0 z23882 0 x7 x0 x1 x2 x6 m0 g0 (by decide) (by omega) mx0 gx0 pf0 mx1 gx1 pf1 mx2 gx2 pf2 (by omega) pf6 hrel) m0 g0 rfl rfl qw_608 qw_609 qw_610 qw_5 qw_611 ⟨rfl, by decide +kernel, by decide +kernel, by decide +kernel⟩ ⟨Nat.le_of_ble_eq_true rfl, Nat.le_of_ble_eq_true rfl⟩ hl rfl rfl (Nat.le_of_ble_eq_true rfl) dX13_readStone_146 ⟨Nat.le_of_ble_eq_true rfl, Nat.le_of_ble_eq_true rfl⟩ (fun F H locs hT hz23957 => ?_)
        obtain ⟨yz23957, hrel, xz23957_0⟩ := hz23957
        have pf0 := (yz23957.1 _ 4 (Or.inr (by decide))).trans pf0
        have pf1 := (yz23957.1 _ 28 (Or.inr (by decide))).trans pf1
        have pf2 := (yz23957.1 _ 29 (Or.inr (by decide))).trans pf2
        have pf7 := (yz23957.1 _ 7 (Or.inr (by decide))).trans pf7
        have pf8 := (yz23957.1 _ 8 (Or.inr (by decide))).trans pf8
        have pf9 := (yz23957.1 _ 9 (Or.inr (by decide))).trans pf9
        have pf10 := (yz23957.1 _ 10 (Or.inr (by decide))).trans pf10
        have pf11 := (yz23957.1 _ 0 (Or.inr (by decide))).trans pf11
        have qsoz23948 := (yz23957.1 _ 9 (Or.inr (by decide))).trans qsoz23948
        have qspz23948 := (yz23957.1 _ 8 (Or.inr (by decide))).trans qspz23948
        have qfaz23948 := (yz23957.1 _ 13 (Or.inr (by decide))).trans qfaz23948
        have hfr : (∀ b j : Nat, (tag b ≠ 44 ∨ j ≠ 7) → (tag b ≠ 44 ∨ j ≠ 12) → (tag b ≠ 46 ∨ j ≠ 8) → (tag b ≠ 46 ∨ j ≠ 9) → (tag b ≠ 46 ∨ j ≠ 10) → (tag b ≠ 46 ∨ j ≠ 11) → (tag b ≠ 46 ∨ j ≠ 12) → (tag b ≠ 46 ∨ j ≠ 13) → (tag b ≠ 46 ∨ j ≠ 14) → (tag b ≠ 46 ∨ j ≠ 15) → fld F b j = fld Fo b j) ∧ (∀ b j : Nat, tag b ≠ 29 → tag b ≠ 34 → tag b ≠ 35 → tag b ≠ 36 → elm F b j = elm Fo b j) := ⟨fun b j n44_7 n44_12 n46_8 n46_9 n46_10 n46_11 n46_12 n46_13 n46_14 n46_15 => (yz23957.1 b j n44_12).trans (hfr.1 b j n44_7 n44_12 n46_8 n46_9 n46_10 n46_11 n46_12 n46_13 n46_14 n46_15), fun b j a29 a34 a35 a36 => (yz23957.2 b j a34 a35 a36).trans (hfr.2 b j a29 a34 a35 a36)⟩
        obtain ⟨z23958, qz23958, hz23958⟩ := xz23957_0
        have rz23958 : 0 ≤ z23958.toInt ∧ z23958.toInt ≤ 32 := by omega
        refine lv_aload_n hx hb dX13_readStone_149 rfl (lv_at hl 7 rfl) ?_
        refine t_get (C := RX13) (T := TX13) (N := 37) X hT m0 g0 rfl rfl 4 (by decide) qw_477 inlX13 rfl dX13_readStone_150 (fun v23959 hv23959 ov23959 => ?_)
        obtain rfl : v23959 = .ref x0 := hv23959.symm.trans pf0
        refine t_getN (C := RX12) (T := TX12) (N := 31) X hT mx0 gx0 rfl rfl 16 (by decide) (List.mem_of_getElem? (i := 20) rfl) inlX12 rfl dX13_readStone_153 (fun v23960 hv23960 ov23960 => ?_)
        obtain ⟨b23961, rfl, mb23961, gb23961⟩ := okV_r ov23960
        have gb23961 : tag b23961 = 29 := tg_of gb23961
        refine lv_iload hx hb dX13_readStone_156 (lv_at hl 0 rfl) ?_
        refine lv_iload_n hx hb dX13_readStone_158 rfl (lv_at hl 5 rfl) ?_
        refine t_ist X hT mb23961 gb23961 rfl (by omega) (show (-2147483648) ≤ (1 : Int32).toInt ∧ (1 : Int32).toInt ≤ 2147483647 from (rg_all _)) dX13_readStone_159 (fun F H locs hT v23962 h1v23962 h2v23962 => ?_)
        have pf0 := (h2v23962 _ _).trans pf0
        have pf1 := (h2v23962 _ _).trans pf1
        have pf2 := (h2v23962 _ _).trans pf2
        have pf7 := (h2v23962 _ _).trans pf7
        have pf8 := (h2v23962 _ _).trans pf8
        have pf9 := (h2v23962 _ _).trans pf9
        have pf10 := (h2v23962 _ _).trans pf10
        have pf11 := (h2v23962 _ _).trans pf11
        have qsoz23948 := (h2v23962 _ _).trans qsoz23948
        have qspz23948 := (h2v23962 _ _).trans qspz23948
        have qfaz23948 := (h2v23962 _ _).trans qfaz23948
        have qz23958 := (h2v23962 _ _).trans qz23958
        have hv23960 := (h2v23962 _ _).trans hv23960
        have hfr : (∀ b j : Nat, (tag b ≠ 44 ∨ j ≠ 7) → (tag b ≠ 44 ∨ j ≠ 12) → (tag b ≠ 46 ∨ j ≠ 8) → (tag b ≠ 46 ∨ j ≠ 9) → (tag b ≠ 46 ∨ j ≠ 10) → (tag b ≠ 46 ∨ j ≠ 11) → (tag b ≠ 46 ∨ j ≠ 12) → (tag b ≠ 46 ∨ j ≠ 13) → (tag b ≠ 46 ∨ j ≠ 14) → (tag b ≠ 46 ∨ j ≠ 15) → fld F b j = fld Fo b j) ∧ (∀ b j : Nat, tag b ≠ 29 → tag b ≠ 34 → tag b ≠ 35 → tag b ≠ 36 → elm F b j = elm Fo b j) := ⟨fun b j n44_7 n44_12 n46_8 n46_9 n46_10 n46_11 n46_12 n46_13 n46_14 n46_15 => (h2v23962 b j).trans (hfr.1 b j n44_7 n44_12 n46_8 n46_9 n46_10 n46_11 n46_12 n46_13 n46_14 n46_15), fun b j a29 a34 a35 a36 => (h1v23962 b j (Or.inl (at_ne gb23961 a29))).trans (hfr.2 b j a29 a34 a35 a36)⟩
        have hrel := msr_of (fun j => h1v23962 _ j (Or.inl (tne gx1 gb23961 (by decide)))) (fun j => h1v23962 _ j (Or.inl (tne gx2 gb23961 (by decide)))) hrel
        refine lv_aload_n hx hb dX13_readStone_160 rfl (lv_at hl 7 rfl) ?_
        refine t_get (C := RX13) (T := TX13) (N := 37) X hT m0 g0 rfl rfl 4 (by decide) qw_477 inlX13 rfl dX13_readStone_161 (fun v23963 hv23963 ov23963 => ?_)
        obtain rfl : v23963 = .ref x0 := hv23963.symm.trans pf0
        refine t_getN (C := RX12) (T := TX12) (N := 31) X hT mx0 gx0 rfl rfl 17 (by decide) (List.mem_of_getElem? (i := 21) rfl) inlX12 rfl dX13_readStone_164 (fun v23964 hv23964 ov23964 => ?_)
        obtain ⟨b23965, rfl, mb23965, gb23965⟩ := okV_r ov23964
        have gb23965 : tag b23965 = 29 := tg_of gb23965
        refine lv_iload hx hb dX13_readStone_167 (lv_at hl 0 rfl) ?_
        refine lv_iload hx hb dX13_readStone_169 (lv_at hl 4 rfl) ?_
        refine t_ist X hT mb23965 gb23965 rfl (by omega) (show (-2147483648) ≤ (z23945 : Int32).toInt ∧ (z23945 : Int32).toInt ≤ 2147483647 from (rg_all _)) dX13_readStone_171 (fun F H locs hT v23966 h1v23966 h2v23966 => ?_)
        have pf0 := (h2v23966 _ _).trans pf0
        have pf1 := (h2v23966 _ _).trans pf1
        have pf2 := (h2v23966 _ _).trans pf2
        have pf7 := (h2v23966 _ _).trans pf7
        have pf8 := (h2v23966 _ _).trans pf8
        have pf9 := (h2v23966 _ _).trans pf9
        have pf10 := (h2v23966 _ _).trans pf10
        have pf11 := (h2v23966 _ _).trans pf11
        have qsoz23948 := (h2v23966 _ _).trans qsoz23948
        have qspz23948 := (h2v23966 _ _).trans qspz23948
        have qfaz23948 := (h2v23966 _ _).trans qfaz23948
        have qz23958 := (h2v23966 _ _).trans qz23958
        have hv23960 := (h2v23966 _ _).trans hv23960
        have hv23964 := (h2v23966 _ _).trans hv23964
        have hfr : (∀ b j : Nat, (tag b ≠ 44 ∨ j ≠ 7) → (tag b ≠ 44 ∨ j ≠ 12) → (tag b ≠ 46 ∨ j ≠ 8) → (tag b ≠ 46 ∨ j ≠ 9) → (tag b ≠ 46 ∨ j ≠ 10) → (tag b ≠ 46 ∨ j ≠ 11) → (tag b ≠ 46 ∨ j ≠ 12) → (tag b ≠ 46 ∨ j ≠ 13) → (tag b ≠ 46 ∨ j ≠ 14) → (tag b ≠ 46 ∨ j ≠ 15) → fld F b j = fld Fo b j) ∧ (∀ b j : Nat, tag b ≠ 29 → tag b ≠ 34 → tag b ≠ 35 → tag b ≠ 36 → elm F b j = elm Fo b j) := ⟨fun b j n44_7 n44_12 n46_8 n46_9 n46_10 n46_11 n46_12 n46_13 n46_14 n46_15 => (h2v23966 b j).trans (hfr.1 b j n44_7 n44_12 n46_8 n46_9 n46_10 n46_11 n46_12 n46_13 n46_14 n46_15), fun b j a29 a34 a35 a36 => (h1v23966 b j (Or.inl (at_ne gb23965 a29))).trans (hfr.2 b j a29 a34 a35 a36)⟩
        have hrel := msr_of (fun j => h1v23966 _ j (Or.inl (tne gx1 gb23965 (by decide)))) (fun j => h1v23966 _ j (Or.inl (tne gx2 gb23965 (by decide)))) hrel
        refine lv_aload_n hx hb dX13_readStone_172 rfl (lv_at hl 7 rfl) ?_
        refine t_get (C := RX13) (T := TX13) (N := 37) X hT m0 g0 rfl rfl 4 (by decide) qw_477 inlX13 rfl dX13_readStone_173 (fun v23967 hv23967 ov23967 => ?_)
        obtain rfl : v23967 = .ref x0 := hv23967.symm.trans pf0
        refine t_getN (C := RX12) (T := TX12) (N := 31) X hT mx0 gx0 rfl rfl 18 (by decide) (List.mem_of_getElem? (i := 22) rfl) inlX12 rfl dX13_readStone_176 (fun v23968 hv23968 ov23968 => ?_)
        obtain ⟨b23969, rfl, mb23969, gb23969⟩ := okV_r ov23968
        have gb23969 : tag b23969 = 29 := tg_of gb23969
        refine lv_iload hx hb dX13_readStone_179 (lv_at hl 0 rfl) ?_
        refine lv_iload hx hb dX13_readStone_181 (lv_at hl 3 rfl) ?_
        refine t_ist X hT mb23969 gb23969 rfl (by omega) (show (-2147483648) ≤ (z23946 : Int32).toInt ∧ (z23946 : Int32).toInt ≤ 2147483647 from (rg_all _)) dX13_readStone_183 (fun F H locs hT v23970 h1v23970 h2v23970 => ?_)
        have pf0 := (h2v23970 _ _).trans pf0
        have pf1 := (h2v23970 _ _).trans pf1
        have pf2 := (h2v23970 _ _).trans pf2
        have pf7 := (h2v23970 _ _).trans pf7
        have pf8 := (h2v23970 _ _).trans pf8
        have pf9 := (h2v23970 _ _).trans pf9
        have pf10 := (h2v23970 _ _).trans pf10
        have pf11 := (h2v23970 _ _).trans pf11
        have qsoz23948 := (h2v23970 _ _).trans qsoz23948
        have qspz23948 := (h2v23970 _ _).trans qspz23948
        have qfaz23948 := (h2v23970 _ _).trans qfaz23948
        have qz23958 := (h2v23970 _ _).trans qz23958
        have hv23960 := (h2v23970 _ _).trans hv23960
        have hv23964 := (h2v23970 _ _).trans hv23964
        have hv23968 := (h2v23970 _ _).trans hv23968
        have hfr : (∀ b j : Nat, (tag b ≠ 44 ∨ j ≠ 7) → (tag b ≠ 44 ∨ j ≠ 12) → (tag b ≠ 46 ∨ j ≠ 8) → (tag b ≠ 46 ∨ j ≠ 9) → (tag b ≠ 46 ∨ j ≠ 10) → (tag b ≠ 46 ∨ j ≠ 11) → (tag b ≠ 46 ∨ j ≠ 12) → (tag b ≠ 46 ∨ j ≠ 13) → (tag b ≠ 46 ∨ j ≠ 14) → (tag b ≠ 46 ∨ j ≠ 15) → fld F b j = fld Fo b j) ∧ (∀ b j : Nat, tag b ≠ 29 → tag b ≠ 34 → tag b ≠ 35 → tag b ≠ 36 → elm F b j = elm Fo b j) := ⟨fun b j n44_7 n44_12 n46_8 n46_9 n46_10 n46_11 n46_12 n46_13 n46_14 n46_15 => (h2v23970 b j).trans (hfr.1 b j n44_7 n44_12 n46_8 n46_9 n46_10 n46_11 n46_12 n46_13 n46_14 n46_15), fun b j a29 a34 a35 a36 => (h1v23970 b j (Or.inl (at_ne gb23969 a29))).trans (hfr.2 b j a29 a34 a35 a36)⟩
        have hrel := msr_of (fun j => h1v23970 _ j (Or.inl (tne gx1 gb23969 (by decide)))) (fun j => h1v23970 _ j (Or.inl (tne gx2 gb23969 (by decide)))) hrel
        refine lv_aload_n hx hb dX13_readStone_184 rfl (lv_at hl 7 rfl) ?_
        refine t_get (C := RX13) (T := TX13) (N := 37) X hT m0 g0 rfl rfl 4 (by decide) qw_477 inlX13 rfl dX13_readStone_185 (fun v23971 hv23971 ov23971 => ?_)
        obtain rfl : v23971 = .ref x0 := hv23971.symm.trans pf0
        refine t_getN (C := RX12) (T := TX12) (N := 31) X hT mx0 gx0 rfl rfl 19 (by decide) (List.mem_of_getElem? (i := 23) rfl) inlX12 rfl dX13_readStone_188 (fun v23972 hv23972 ov23972 => ?_)
        obtain ⟨b23973, rfl, mb23973, gb23973⟩ := okV_r ov23972
        have gb23973 : tag b23973 = 29 := tg_of gb23973
        refine lv_iload hx hb dX13_readStone_191 (lv_at hl 0 rfl) ?_
        refine lv_iload hx hb dX13_readStone_193 (lv_at hl 2 rfl) ?_
        refine t_ist X hT mb23973 gb23973 rfl (by omega) (show (-2147483648) ≤ (z23947 : Int32).toInt ∧ (z23947 : Int32).toInt ≤ 2147483647 from (rg_all _)) dX13_readStone_195 (fun F H locs hT v23974 h1v23974 h2v23974 => ?_)
        have pf0 := (h2v23974 _ _).trans pf0
        have pf1 := (h2v23974 _ _).trans pf1
        have pf2 := (h2v23974 _ _).trans pf2
        have pf7 := (h2v23974 _ _).trans pf7
        have pf8 := (h2v23974 _ _).trans pf8
        have pf9 := (h2v23974 _ _).trans pf9
        have pf10 := (h2v23974 _ _).trans pf10
        have pf11 := (h2v23974 _ _).trans pf11
        have qsoz23948 := (h2v23974 _ _).trans qsoz23948
        have qspz23948 := (h2v23974 _ _).trans qspz23948
        have qfaz23948 := (h2v23974 _ _).trans qfaz23948
        have qz23958 := (h2v23974 _ _).trans qz23958
        have hv23960 := (h2v23974 _ _).trans hv23960
        have hv23964 := (h2v23974 _ _).trans hv23964
        have hv23968 := (h2v23974 _ _).trans hv23968
        have hv23972 := (h2v23974 _ _).trans hv23972
        have hfr : (∀ b j : Nat, (tag b ≠ 44 ∨ j ≠ 7) → (tag b ≠ 44 ∨ j ≠ 12) → (tag b ≠ 46 ∨ j ≠ 8) → (tag b ≠ 46 ∨ j ≠ 9) → (tag b ≠ 46 ∨ j ≠ 10) → (tag b ≠ 46 ∨ j ≠ 11) → (tag b ≠ 46 ∨ j ≠ 12) → (tag b ≠ 46 ∨ j ≠ 13) → (tag b ≠ 46 ∨ j ≠ 14) → (tag b ≠ 46 ∨ j ≠ 15) → fld F b j = fld Fo b j) ∧ (∀ b j : Nat, tag b ≠ 29 → tag b ≠ 34 → tag b ≠ 35 → tag b ≠ 36 → elm F b j = elm Fo b j) := ⟨fun b j n44_7 n44_12 n46_8 n46_9 n46_10 n46_11 n46_12 n46_13 n46_14 n46_15 => (h2v23974 b j).trans (hfr.1 b j n44_7 n44_12 n46_8 n46_9 n46_10 n46_11 n46_12 n46_13 n46_14 n46_15), fun b j a29 a34 a35 a36 => (h1v23974 b j (Or.inl (at_ne gb23973 a29))).trans (hfr.2 b j a29 a34 a35 a36)⟩
        have hrel := msr_of (fun j => h1v23974 _ j (Or.inl (tne gx1 gb23973 (by decide)))) (fun j => h1v23974 _ j (Or.inl (tne gx2 gb23973 (by decide)))) hrel
        refine lv_aload_n hx hb dX13_readStone_196 rfl (lv_at hl 7 rfl) ?_
        refine t_get (C := RX13) (T := TX13) (N := 37) X hT m0 g0 rfl rfl 4 (by decide) qw_477 inlX13 rfl dX13_readStone_197 (fun v23975 hv23975 ov23975 => ?_)
        obtain rfl : v23975 = .ref x0 := hv23975.symm.trans pf0
        refine t_getN (C := RX12) (T := TX12) (N := 31) X hT mx0 gx0 rfl rfl 20 (by decide) (List.mem_of_getElem? (i := 24) rfl) inlX12 rfl dX13_readStone_200 (fun v23976 hv23976 ov23976 => ?_)
        obtain ⟨b23977, rfl, mb23977, gb23977⟩ := okV_r ov23976
        have gb23977 : tag b23977 = 29 := tg_of gb23977
        refine lv_iload hx hb dX13_readStone_203 (lv_at hl 0 rfl) ?_
        refine lv_iload hx hb dX13_readStone_205 (lv_at hl 1 rfl) ?_
        refine t_ist X hT mb23977 gb23977 rfl (by omega) (show (-2147483648) ≤ (z23948 : Int32).toInt ∧ (z23948 : Int32).toInt ≤ 2147483647 from (rg_all _)) dX13_readStone_207 (fun F H locs hT v23978 h1v23978 h2v23978 => ?_)
        have pf0 := (h2v23978 _ _).trans pf0
        have pf1 := (h2v23978 _ _).trans pf1
        have pf2 := (h2v23978 _ _).trans pf2
        have pf7 := (h2v23978 _ _).trans pf7
        have pf8 := (h2v23978 _ _).trans pf8
        have pf9 := (h2v23978 _ _).trans pf9
        have pf10 := (h2v23978 _ _).trans pf10
        have pf11 := (h2v23978 _ _).trans pf11
        have qsoz23948 := (h2v23978 _ _).trans qsoz23948
        have qspz23948 := (h2v23978 _ _).trans qspz23948
        have qfaz23948 := (h2v23978 _ _).trans qfaz23948
        have qz23958 := (h2v23978 _ _).trans qz23958
        have hv23960 := (h2v23978 _ _).trans hv23960
        have hv23964 := (h2v23978 _ _).trans hv23964
        have hv23968 := (h2v23978 _ _).trans hv23968
        have hv23972 := (h2v23978 _ _).trans hv23972
        have hv23976 := (h2v23978 _ _).trans hv23976
        have hfr : (∀ b j : Nat, (tag b ≠ 44 ∨ j ≠ 7) → (tag b ≠ 44 ∨ j ≠ 12) → (tag b ≠ 46 ∨ j ≠ 8) → (tag b ≠ 46 ∨ j ≠ 9) → (tag b ≠ 46 ∨ j ≠ 10) → (tag b ≠ 46 ∨ j ≠ 11) → (tag b ≠ 46 ∨ j ≠ 12) → (tag b ≠ 46 ∨ j ≠ 13) → (tag b ≠ 46 ∨ j ≠ 14) → (tag b ≠ 46 ∨ j ≠ 15) → fld F b j = fld Fo b j) ∧ (∀ b j : Nat, tag b ≠ 29 → tag b ≠ 34 → tag b ≠ 35 → tag b ≠ 36 → elm F b j = elm Fo b j) := ⟨fun b j n44_7 n44_12 n46_8 n46_9 n46_10 n46_11 n46_12 n46_13 n46_14 n46_15 => (h2v23978 b j).trans (hfr.1 b j n44_7 n44_12 n46_8 n46_9 n46_10 n46_11 n46_12 n46_13 n46_14 n46_15), fun b j a29 a34 a35 a36 => (h1v23978 b j (Or.inl (at_ne gb23977 a29))).trans (hfr.2 b j a29 a34 a35 a36)⟩
        have hrel := msr_of (fun j => h1v23978 _ j (Or.inl (tne gx1 gb23977 (by decide)))) (fun j => h1v23978 _ j (Or.inl (tne gx2 gb23977 (by decide)))) hrel
        refine lv_aload_n hx hb dX13_readStone_208 rfl (lv_at hl 7 rfl) ?_
        refine t_get (C := RX13) (T := TX13) (N := 37) X hT m0 g0 rfl rfl 4 (by decide) qw_477 inlX13 rfl dX13_readStone_209 (fun v23979 hv23979 ov23979 => ?_)
        obtain rfl : v23979 = .ref x0 := hv23979.symm.trans pf0
        refine lv_dup hx hb dX13_readStone_212 rfl ?_
        refine t_getN (C := RX12) (T := TX12) (N := 31) X hT mx0 gx0 rfl rfl 7 (by decide) (List.mem_of_getElem? (i := 11) rfl) inlX12 rfl dX13_readStone_213 (fun v23980 hv23980 ov23980 => ?_)
        obtain rfl : v23980 = .int x7 := hv23980.symm.trans pf7
        refine lv_iconst (v := 1) hx hb dX13_readStone_216 (by decide) ?_
        refine lv_iadd hx hb dX13_readStone_217 ?_
        refine lv_topi (fun z23981 ez23981 => ?_)
        have hz23981 : z23981.toInt = x7.toInt + 1 := ar_add ez23981 (rfl : x7.toInt = x7.toInt) (by decide : (1 : Int32).toInt = 1) (by omega) (by omega)
        have rz23981 : 1 ≤ z23981.toInt ∧ z23981.toInt ≤ 4 := by omega
        refine t_putN (C := RX12) (T := TX12) (N := 31) (v := .int z23981) X hT mx0 gx0 rfl tyX12 tyX12_ok nmX12 rfl 7 (by decide) (List.mem_of_getElem? (i := 11) rfl) inlX12 rfl (by first | rfl | decide) (by first | rfl | decide) rfl (⟨_, rfl, (show 0 ≤ (z23981 : Int32).toInt from (by omega)), (show (z23981 : Int32).toInt ≤ 4 from (by omega))⟩) dX13_readStone_218 (fun F H locs hT v23982 h1v23982 h2v23982 => ?_)
        have pf0 := (h1v23982 _ _ (Or.inr (by decide))).trans pf0
        have pf1 := (h1v23982 _ _ (Or.inr (by decide))).trans pf1
        have pf2 := (h1v23982 _ _ (Or.inr (by decide))).trans pf2
        have pf8 := (h1v23982 _ _ (Or.inr (by decide))).trans pf8
        have pf9 := (h1v23982 _ _ (Or.inr (by decide))).trans pf9
        have pf10 := (h1v23982 _ _ (Or.inr (by decide))).trans pf10
        have pf11 := (h1v23982 _ _ (Or.inr (by decide))).trans pf11
        have qsoz23948 := (h1v23982 _ _ (Or.inr (by decide))).trans qsoz23948
        have qspz23948 := (h1v23982 _ _ (Or.inr (by decide))).trans qspz23948
        have qfaz23948 := (h1v23982 _ _ (Or.inr (by decide))).trans qfaz23948
        have qz23958 := (h1v23982 _ _ (Or.inr (by decide))).trans qz23958
        have hv23960 := (h1v23982 _ _ (Or.inr (by decide))).trans hv23960
        have hv23964 := (h1v23982 _ _ (Or.inr (by decide))).trans hv23964
        have hv23968 := (h1v23982 _ _ (Or.inr (by decide))).trans hv23968
        have hv23972 := (h1v23982 _ _ (Or.inr (by decide))).trans hv23972
        have hv23976 := (h1v23982 _ _ (Or.inr (by decide))).trans hv23976
        have v23978 := (h2v23982 _ _).trans v23978
        have hfr : (∀ b j : Nat, (tag b ≠ 44 ∨ j ≠ 7) → (tag b ≠ 44 ∨ j ≠ 12) → (tag b ≠ 46 ∨ j ≠ 8) → (tag b ≠ 46 ∨ j ≠ 9) → (tag b ≠ 46 ∨ j ≠ 10) → (tag b ≠ 46 ∨ j ≠ 11) → (tag b ≠ 46 ∨ j ≠ 12) → (tag b ≠ 46 ∨ j ≠ 13) → (tag b ≠ 46 ∨ j ≠ 14) → (tag b ≠ 46 ∨ j ≠ 15) → fld F b j = fld Fo b j) ∧ (∀ b j : Nat, tag b ≠ 29 → tag b ≠ 34 → tag b ≠ 35 → tag b ≠ 36 → elm F b j = elm Fo b j) := ⟨fun b j n44_7 n44_12 n46_8 n46_9 n46_10 n46_11 n46_12 n46_13 n46_14 n46_15 => (h1v23982 b j (fr_ne gx0 n44_7)).trans (hfr.1 b j n44_7 n44_12 n46_8 n46_9 n46_10 n46_11 n46_12 n46_13 n46_14 n46_15), fun b j a29 a34 a35 a36 => (h2v23982 b j).trans (hfr.2 b j a29 a34 a35 a36)⟩
        have hrel := msr_of (fun j => h2v23982 _ j) (fun j => h2v23982 _ j) hrel
        have hpu9 := hpl
        unfold PLr at hpu9
        have hpl : PLr z23958 z23981 x8 x9 x10 x11 := ⟨by omega, fun _ => by omega⟩
        exact t_vret hQ X hT ⟨hfr, hrel, ⟨soz23948, spz23948, faz23948, qsoz23948, qspz23948, qfaz23948, (by omega), (by omega), (by omega), hstk, hspt, hkf⟩, ⟨z23958, z23981, x8, x9, x10, x11, qz23958, v23982, pf8, pf9, pf10, pf11, (by omega), (by omega), (by omega), (by omega), (by omega), (by omega), hpl⟩⟩ (Nat.le_of_ble_eq_true rfl) (Nat.le_of_ble_eq_true rfl) dX13_readStone_221
      · have w23983 := cv_eq (rfl : soz23948.toInt = soz23948.toInt) (by decide : (5 : Int32).toInt = 5) c23950
        exact t_vret hQ X hT ⟨hfr, hrel, ⟨soz23948, spz23948, faz23948, qsoz23948, qspz23948, qfaz23948, (by omega), (by omega), (by omega), hstk, hspt, hkf⟩, ⟨x6, x7, x8, x9, x10, x11, pf6, pf7, pf8, pf9, pf10, pf11, (by omega), (by omega), (by omega), (by omega), (by omega), (by omega), hpl⟩⟩ (Nat.le_of_ble_eq_true rfl) (Nat.le_of_ble_eq_true rfl) dX13_readStone_131
  · have w23984 := cv_ne (rfl : z23883.toInt = z23883.toInt) (by decide : (0 : Int32).toInt = 0) c23884
    refine lv_iconst (v := 0) hx hb dX13_readStone_27 (by decide) ?_
    refine lv_goto (tgt := 60) hx hb dX13_readStone_28 (by decide) ?_
    refine lv_istore_n (lv' := [(3, .int 0), (1, .long z23882), (0, .ref p0)]) hx hb dX13_readStone_60 rfl hl (by decide) rfl (fun ls hl => ?_)
    refine lv_iload_n hx hb dX13_readStone_61 rfl (lv_at hl 0 rfl) ?_
    refine lv_iconst (v := (-1)) hx hb dX13_readStone_62 (by decide) ?_
    refine lv_icmp_ne (tgt := 71) hx hb dX13_readStone_63 (by decide) (fun _ => ?_) (fun c9 => absurd c9 (by decide))
    refine lv_aload_n hx hb dX13_readStone_71 rfl (lv_at hl 2 rfl) ?_
    refine t_cVv (n := 0) (C := RX13) (T := TX13) (N := 37) (As := []) (rest := []) X hT (km14_X13_goesOn l G tag L F hT.2.2.2 p0 x0 x1 x2 soz23882 spz23882 faz23882 m0 g0 mx0 gx0 pf0 mx1 gx1 pf1 mx2 gx2 pf2 (by omega) qsoz23882 (by omega) qspz23882 (by omega) qfaz23882 hkf) m0 g0 rfl rfl qw_508 qw_509 qw_510 qw_5 qw_511 ⟨rfl, by decide +kernel, by decide +kernel, by decide +kernel⟩ ⟨Nat.le_of_ble_eq_true rfl, Nat.le_of_ble_eq_true rfl⟩ hl rfl rfl (Nat.le_of_ble_eq_true rfl) dX13_readStone_72 ⟨Nat.le_of_ble_eq_true rfl, Nat.le_of_ble_eq_true rfl⟩ (fun F H locs hT hz23985 => ?_)
    obtain ⟨yz23985, ⟨soz23985, spz23985, faz23985, qsoz23985, qspz23985, qfaz23985, rsoz23985, rspz23985, rfaz23985, stz23985, ptz23985, hkf⟩⟩ := hz23985
    have pf0 := (yz23985.1 _ 4 (Or.inr (by decide)) (Or.inr (by decide)) (Or.inr (by decide)) (Or.inr (by decide)) (Or.inr (by decide)) (Or.inr (by decide))).trans pf0
    have pf1 := (yz23985.1 _ 28 (Or.inr (by decide)) (Or.inr (by decide)) (Or.inr (by decide)) (Or.inr (by decide)) (Or.inr (by decide)) (Or.inr (by decide))).trans pf1
    have pf2 := (yz23985.1 _ 29 (Or.inr (by decide)) (Or.inr (by decide)) (Or.inr (by decide)) (Or.inr (by decide)) (Or.inr (by decide)) (Or.inr (by decide))).trans pf2
    have pf6 := (yz23985.1 _ 12 (Or.inr (by decide)) (Or.inr (by decide)) (Or.inr (by decide)) (Or.inr (by decide)) (Or.inl (by rw [gx0]; decide)) (Or.inr (by decide))).trans pf6
    have pf7 := (yz23985.1 _ 7 (Or.inr (by decide)) (Or.inr (by decide)) (Or.inr (by decide)) (Or.inr (by decide)) (Or.inr (by decide)) (Or.inr (by decide))).trans pf7
    have pf8 := (yz23985.1 _ 8 (Or.inl (by rw [gx0]; decide)) (Or.inr (by decide)) (Or.inr (by decide)) (Or.inr (by decide)) (Or.inr (by decide)) (Or.inr (by decide))).trans pf8
    have pf9 := (yz23985.1 _ 9 (Or.inr (by decide)) (Or.inl (by rw [gx0]; decide)) (Or.inr (by decide)) (Or.inr (by decide)) (Or.inr (by decide)) (Or.inr (by decide))).trans pf9
    have pf10 := (yz23985.1 _ 10 (Or.inr (by decide)) (Or.inr (by decide)) (Or.inl (by rw [gx0]; decide)) (Or.inr (by decide)) (Or.inr (by decide)) (Or.inr (by decide))).trans pf10
    have pf11 := (yz23985.1 _ 0 (Or.inr (by decide)) (Or.inr (by decide)) (Or.inr (by decide)) (Or.inr (by decide)) (Or.inr (by decide)) (Or.inr (by decide))).trans pf11
    have qfaz23882 := (yz23985.1 _ 13 (Or.inr (by decide)) (Or.inr (by decide)) (Or.inr (by decide)) (Or.inr (by decide)) (Or.inr (by decide)) (Or.inr (by decide))).trans qfaz23882
    have hfr : (∀ b j : Nat, (tag b ≠ 44 ∨ j ≠ 7) → (tag b ≠ 44 ∨ j ≠ 12) → (tag b ≠ 46 ∨ j ≠ 8) → (tag b ≠ 46 ∨ j ≠ 9) → (tag b ≠ 46 ∨ j ≠ 10) → (tag b ≠ 46 ∨ j ≠ 11) → (tag b ≠ 46 ∨ j ≠ 12) → (tag b ≠ 46 ∨ j ≠ 13) → (tag b ≠ 46 ∨ j ≠ 14) → (tag b ≠ 46 ∨ j ≠ 15) → fld F b j = fld Fo b j) ∧ (∀ b j : Nat, tag b ≠ 29 → tag b ≠ 34 → tag b ≠ 35 → tag b ≠ 36 → elm F b j = elm Fo b j) := ⟨fun b j n44_7 n44_12 n46_8 n46_9 n46_10 n46_11 n46_12 n46_13 n46_14 n46_15 => (yz23985.1 b j n46_8 n46_9 n46_10 n46_11 n46_12 n46_15).trans (hfr.1 b j n44_7 n44_12 n46_8 n46_9 n46_10 n46_11 n46_12 n46_13 n46_14 n46_15), fun b j a29 a34 a35 a36 => (yz23985.2 b j ).trans (hfr.2 b j a29 a34 a35 a36)⟩
    have hrel := msr_of (fun j => yz23985.2 _ j ) (fun j => yz23985.2 _ j ) hrel
    have hstk := STK.tr hstk stz23985
    have hspt := SPT.tr hspt ptz23985
    refine lv_aload_n hx hb dX13_readStone_75 rfl (lv_at hl 2 rfl) ?_
    refine m_ldcKw X 64 rfl dX13_readStone_76 ?_
    refine lv_iconst (v := 1) hx hb dX13_readStone_79 (by decide) ?_
    refine lv_bipush (v := 9) hx hb dX13_readStone_80 (by decide) ?_
    refine t_cVi (n := 3) (C := RX13) (T := TX13) (N := 37) (As := [.ref (G.2 (100 + 64)), .int 1, .int 9]) (rest := []) X hT (km62_X13_readPart l G tag L F hT.2.2.2 p0 64 1 9 x0 x1 x2 soz23985 spz23985 faz23985 m0 g0 (by decide) (by decide) (by decide) mx0 gx0 pf0 mx1 gx1 pf1 mx2 gx2 pf2 (by omega) qsoz23985 (by omega) qspz23985 (by omega) qfaz23985 hkf) m0 g0 rfl rfl qw_552 qw_553 qw_554 qw_5 qw_555 ⟨rfl, by decide +kernel, by decide +kernel, by decide +kernel⟩ ⟨Nat.le_of_ble_eq_true rfl, Nat.le_of_ble_eq_true rfl⟩ hl rfl rfl (Nat.le_of_ble_eq_true rfl) dX13_readStone_82 ⟨Nat.le_of_ble_eq_true rfl, Nat.le_of_ble_eq_true rfl⟩ (fun z23986 F H locs hT hz23986 => ?_)
    obtain ⟨hz23986, yz23986, ⟨soz23986, spz23986, faz23986, qsoz23986, qspz23986, qfaz23986, rsoz23986, rspz23986, rfaz23986, stz23986, ptz23986, hkf⟩⟩ := hz23986
    have pf0 := (yz23986.1 _ 4 (Or.inr (by decide)) (Or.inr (by decide)) (Or.inr (by decide)) (Or.inr (by decide)) (Or.inr (by decide)) (Or.inr (by decide)) (Or.inr (by decide)) (Or.inr (by decide))).trans pf0
    have pf1 := (yz23986.1 _ 28 (Or.inr (by decide)) (Or.inr (by decide)) (Or.inr (by decide)) (Or.inr (by decide)) (Or.inr (by decide)) (Or.inr (by decide)) (Or.inr (by decide)) (Or.inr (by decide))).trans pf1
    have pf2 := (yz23986.1 _ 29 (Or.inr (by decide)) (Or.inr (by decide)) (Or.inr (by decide)) (Or.inr (by decide)) (Or.inr (by decide)) (Or.inr (by decide)) (Or.inr (by decide)) (Or.inr (by decide))).trans pf2
    have pf6 := (yz23986.1 _ 12 (Or.inr (by decide)) (Or.inr (by decide)) (Or.inr (by decide)) (Or.inr (by decide)) (Or.inl (by rw [gx0]; decide)) (Or.inr (by decide)) (Or.inr (by decide)) (Or.inr (by decide))).trans pf6
    have pf7 := (yz23986.1 _ 7 (Or.inr (by decide)) (Or.inr (by decide)) (Or.inr (by decide)) (Or.inr (by decide)) (Or.inr (by decide)) (Or.inr (by decide)) (Or.inr (by decide)) (Or.inr (by decide))).trans pf7
    have pf8 := (yz23986.1 _ 8 (Or.inl (by rw [gx0]; decide)) (Or.inr (by decide)) (Or.inr (by decide)) (Or.inr (by decide)) (Or.inr (by decide)) (Or.inr (by decide)) (Or.inr (by decide)) (Or.inr (by decide))).trans pf8
    have pf9 := (yz23986.1 _ 9 (Or.inr (by decide)) (Or.inl (by rw [gx0]; decide)) (Or.inr (by decide)) (Or.inr (by decide)) (Or.inr (by decide)) (Or.inr (by decide)) (Or.inr (by decide)) (Or.inr (by decide))).trans pf9
    have pf10 := (yz23986.1 _ 10 (Or.inr (by decide)) (Or.inr (by decide)) (Or.inl (by rw [gx0]; decide)) (Or.inr (by decide)) (Or.inr (by decide)) (Or.inr (by decide)) (Or.inr (by decide)) (Or.inr (by decide))).trans pf10
    have pf11 := (yz23986.1 _ 0 (Or.inr (by decide)) (Or.inr (by decide)) (Or.inr (by decide)) (Or.inr (by decide)) (Or.inr (by decide)) (Or.inr (by decide)) (Or.inr (by decide)) (Or.inr (by decide))).trans pf11
    have hfr : (∀ b j : Nat, (tag b ≠ 44 ∨ j ≠ 7) → (tag b ≠ 44 ∨ j ≠ 12) → (tag b ≠ 46 ∨ j ≠ 8) → (tag b ≠ 46 ∨ j ≠ 9) → (tag b ≠ 46 ∨ j ≠ 10) → (tag b ≠ 46 ∨ j ≠ 11) → (tag b ≠ 46 ∨ j ≠ 12) → (tag b ≠ 46 ∨ j ≠ 13) → (tag b ≠ 46 ∨ j ≠ 14) → (tag b ≠ 46 ∨ j ≠ 15) → fld F b j = fld Fo b j) ∧ (∀ b j : Nat, tag b ≠ 29 → tag b ≠ 34 → tag b ≠ 35 → tag b ≠ 36 → elm F b j = elm Fo b j) := ⟨fun b j n44_7 n44_12 n46_8 n46_9 n46_10 n46_11 n46_12 n46_13 n46_14 n46_15 => (yz23986.1 b j n46_8 n46_9 n46_10 n46_11 n46_12 n46_13 n46_14 n46_15).trans (hfr.1 b j n44_7 n44_12 n46_8 n46_9 n46_10 n46_11 n46_12 n46_13 n46_14 n46_15), fun b j a29 a34 a35 a36 => (yz23986.2 b j ).trans (hfr.2 b j a29 a34 a35 a36)⟩
    have hrel := msr_of (fun j => yz23986.2 _ j ) (fun j => yz23986.2 _ j ) hrel
    have hstk := STK.tr hstk stz23986
    have hspt := SPT.tr hspt ptz23986
    refine lv_istore (lv' := [(4, .int z23986), (3, .int 0), (1, .long z23882), (0, .ref p0)]) hx hb dX13_readStone_85 hl (by decide) rfl (fun ls hl => ?_)
    refine lv_aload_n hx hb dX13_readStone_87 rfl (lv_at hl 3 rfl) ?_
    refine m_ldcKw X 65 rfl dX13_readStone_88 ?_
    refine lv_iconst (v := 0) hx hb dX13_readStone_91 (by decide) ?_
    refine lv_bipush (v := 9) hx hb dX13_readStone_92 (by decide) ?_
    refine t_cVi (n := 3) (C := RX13) (T := TX13) (N := 37) (As := [.ref (G.2 (100 + 65)), .int 0, .int 9]) (rest := []) X hT (km63_X13_readPart l G tag L F hT.2.2.2 p0 65 0 9 x0 x1 x2 soz23986 spz23986 faz23986 m0 g0 (by decide) (by decide) (by decide) mx0 gx0 pf0 mx1 gx1 pf1 mx2 gx2 pf2 (by omega) qsoz23986 (by omega) qspz23986 (by omega) qfaz23986 hkf) m0 g0 rfl rfl qw_552 qw_553 qw_554 qw_5 qw_555 ⟨rfl, by decide +kernel, by decide +kernel, by decide +kernel⟩ ⟨Nat.le_of_ble_eq_true rfl, Nat.le_of_ble_eq_true rfl⟩ hl rfl rfl (Nat.le_of_ble_eq_true rfl) dX13_readStone_94 ⟨Nat.le_of_ble_eq_true rfl, Nat.le_of_ble_eq_true rfl⟩ (fun z23987 F H locs hT hz23987 => ?_)
    obtain ⟨hz23987, yz23987, ⟨soz23987, spz23987, faz23987, qsoz23987, qspz23987, qfaz23987, rsoz23987, rspz23987, rfaz23987, stz23987, ptz23987, hkf⟩⟩ := hz23987
    have pf0 := (yz23987.1 _ 4 (Or.inr (by decide)) (Or.inr (by decide)) (Or.inr (by decide)) (Or.inr (by decide)) (Or.inr (by decide)) (Or.inr (by decide)) (Or.inr (by decide)) (Or.inr (by decide))).trans pf0
    have pf1 := (yz23987.1 _ 28 (Or.inr (by decide)) (Or.inr (by decide)) (Or.inr (by decide)) (Or.inr (by decide)) (Or.inr (by decide)) (Or.inr (by decide)) (Or.inr (by decide)) (Or.inr (by decide))).trans pf1
    have pf2 := (yz23987.1 _ 29 (Or.inr (by decide)) (Or.inr (by decide)) (Or.inr (by decide)) (Or.inr (by decide)) (Or.inr (by decide)) (Or.inr (by decide)) (Or.inr (by decide)) (Or.inr (by decide))).trans pf2
    have pf6 := (yz23987.1 _ 12 (Or.inr (by decide)) (Or.inr (by decide)) (Or.inr (by decide)) (Or.inr (by decide)) (Or.inl (by rw [gx0]; decide)) (Or.inr (by decide)) (Or.inr (by decide)) (Or.inr (by decide))).trans pf6
    have pf7 := (yz23987.1 _ 7 (Or.inr (by decide)) (Or.inr (by decide)) (Or.inr (by decide)) (Or.inr (by decide)) (Or.inr (by decide)) (Or.inr (by decide)) (Or.inr (by decide)) (Or.inr (by decide))).trans pf7
    have pf8 := (yz23987.1 _ 8 (Or.inl (by rw [gx0]; decide)) (Or.inr (by decide)) (Or.inr (by decide)) (Or.inr (by decide)) (Or.inr (by decide)) (Or.inr (by decide)) (Or.inr (by decide)) (Or.inr (by decide))).trans pf8
    have pf9 := (yz23987.1 _ 9 (Or.inr (by decide)) (Or.inl (by rw [gx0]; decide)) (Or.inr (by decide)) (Or.inr (by decide)) (Or.inr (by decide)) (Or.inr (by decide)) (Or.inr (by decide)) (Or.inr (by decide))).trans pf9
    have pf10 := (yz23987.1 _ 10 (Or.inr (by decide)) (Or.inr (by decide)) (Or.inl (by rw [gx0]; decide)) (Or.inr (by decide)) (Or.inr (by decide)) (Or.inr (by decide)) (Or.inr (by decide)) (Or.inr (by decide))).trans pf10
    have pf11 := (yz23987.1 _ 0 (Or.inr (by decide)) (Or.inr (by decide)) (Or.inr (by decide)) (Or.inr (by decide)) (Or.inr (by decide)) (Or.inr (by decide)) (Or.inr (by decide)) (Or.inr (by decide))).trans pf11
    have hfr : (∀ b j : Nat, (tag b ≠ 44 ∨ j ≠ 7) → (tag b ≠ 44 ∨ j ≠ 12) → (tag b ≠ 46 ∨ j ≠ 8) → (tag b ≠ 46 ∨ j ≠ 9) → (tag b ≠ 46 ∨ j ≠ 10) → (tag b ≠ 46 ∨ j ≠ 11) → (tag b ≠ 46 ∨ j ≠ 12) → (tag b ≠ 46 ∨ j ≠ 13) → (tag b ≠ 46 ∨ j ≠ 14) → (tag b ≠ 46 ∨ j ≠ 15) → fld F b j = fld Fo b j) ∧ (∀ b j : Nat, tag b ≠ 29 → tag b ≠ 34 → tag b ≠ 35 → tag b ≠ 36 → elm F b j = elm Fo b j) := ⟨fun b j n44_7 n44_12 n46_8 n46_9 n46_10 n46_11 n46_12 n46_13 n46_14 n46_15 => (yz23987.1 b j n46_8 n46_9 n46_10 n46_11 n46_12 n46_13 n46_14 n46_15).trans (hfr.1 b j n44_7 n44_12 n46_8 n46_9 n46_10 n46_11 n46_12 n46_13 n46_14 n46_15), fun b j a29 a34 a35 a36 => (yz23987.2 b j ).trans (hfr.2 b j a29 a34 a35 a36)⟩
    have hrel := msr_of (fun j => yz23987.2 _ j ) (fun j => yz23987.2 _ j ) hrel
    have hstk := STK.tr hstk stz23987
    have hspt := SPT.tr hspt ptz23987
    refine lv_istore (lv' := [(5, .int z23987), (4, .int z23986), (3, .int 0), (1, .long z23882), (0, .ref p0)]) hx hb dX13_readStone_97 hl (by decide) rfl (fun ls hl => ?_)
    refine lv_aload_n hx hb dX13_readStone_99 rfl (lv_at hl 4 rfl) ?_
    refine m_ldcKw X 66 rfl dX13_readStone_100 ?_
    refine lv_iconst (v := 0) hx hb dX13_readStone_103 (by decide) ?_
    refine lv_bipush (v := 9) hx hb dX13_readStone_104 (by decide) ?_
    refine t_cVi (n := 3) (C := RX13) (T := TX13) (N := 37) (As := [.ref (G.2 (100 + 66)), .int 0, .int 9]) (rest := []) X hT (km63_X13_readPart l G tag L F hT.2.2.2 p0 66 0 9 x0 x1 x2 soz23987 spz23987 faz23987 m0 g0 (by decide) (by decide) (by decide) mx0 gx0 pf0 mx1 gx1 pf1 mx2 gx2 pf2 (by omega) qsoz23987 (by omega) qspz23987 (by omega) qfaz23987 hkf) m0 g0 rfl rfl qw_552 qw_553 qw_554 qw_5 qw_555 ⟨rfl, by decide +kernel, by decide +kernel, by decide +kernel⟩ ⟨Nat.le_of_ble_eq_true rfl, Nat.le_of_ble_eq_true rfl⟩ hl rfl rfl (Nat.le_of_ble_eq_true rfl) dX13_readStone_106 ⟨Nat.le_of_ble_eq_true rfl, Nat.le_of_ble_eq_true rfl⟩ (fun z23988 F H locs hT hz23988 => ?_)
    obtain ⟨hz23988, yz23988, ⟨soz23988, spz23988, faz23988, qsoz23988, qspz23988, qfaz23988, rsoz23988, rspz23988, rfaz23988, stz23988, ptz23988, hkf⟩⟩ := hz23988
    have pf0 := (yz23988.1 _ 4 (Or.inr (by decide)) (Or.inr (by decide)) (Or.inr (by decide)) (Or.inr (by decide)) (Or.inr (by decide)) (Or.inr (by decide)) (Or.inr (by decide)) (Or.inr (by decide))).trans pf0
    have pf1 := (yz23988.1 _ 28 (Or.inr (by decide)) (Or.inr (by decide)) (Or.inr (by decide)) (Or.inr (by decide)) (Or.inr (by decide)) (Or.inr (by decide)) (Or.inr (by decide)) (Or.inr (by decide))).trans pf1
    have pf2 := (yz23988.1 _ 29 (Or.inr (by decide)) (Or.inr (by decide)) (Or.inr (by decide)) (Or.inr (by decide)) (Or.inr (by decide)) (Or.inr (by decide)) (Or.inr (by decide)) (Or.inr (by decide))).trans pf2
    have pf6 := (yz23988.1 _ 12 (Or.inr (by decide)) (Or.inr (by decide)) (Or.inr (by decide)) (Or.inr (by decide)) (Or.inl (by rw [gx0]; decide)) (Or.inr (by decide)) (Or.inr (by decide)) (Or.inr (by decide))).trans pf6
    have pf7 := (yz23988.1 _ 7 (Or.inr (by decide)) (Or.inr (by decide)) (Or.inr (by decide)) (Or.inr (by decide)) (Or.inr (by decide)) (Or.inr (by decide)) (Or.inr (by decide)) (Or.inr (by decide))).trans pf7
    have pf8 := (yz23988.1 _ 8 (Or.inl (by rw [gx0]; decide)) (Or.inr (by decide)) (Or.inr (by decide)) (Or.inr (by decide)) (Or.inr (by decide)) (Or.inr (by decide)) (Or.inr (by decide)) (Or.inr (by decide))).trans pf8
    have pf9 := (yz23988.1 _ 9 (Or.inr (by decide)) (Or.inl (by rw [gx0]; decide)) (Or.inr (by decide)) (Or.inr (by decide)) (Or.inr (by decide)) (Or.inr (by decide)) (Or.inr (by decide)) (Or.inr (by decide))).trans pf9
    have pf10 := (yz23988.1 _ 10 (Or.inr (by decide)) (Or.inr (by decide)) (Or.inl (by rw [gx0]; decide)) (Or.inr (by decide)) (Or.inr (by decide)) (Or.inr (by decide)) (Or.inr (by decide)) (Or.inr (by decide))).trans pf10
    have pf11 := (yz23988.1 _ 0 (Or.inr (by decide)) (Or.inr (by decide)) (Or.inr (by decide)) (Or.inr (by decide)) (Or.inr (by decide)) (Or.inr (by decide)) (Or.inr (by decide)) (Or.inr (by decide))).trans pf11
    have hfr : (∀ b j : Nat, (tag b ≠ 44 ∨ j ≠ 7) → (tag b ≠ 44 ∨ j ≠ 12) → (tag b ≠ 46 ∨ j ≠ 8) → (tag b ≠ 46 ∨ j ≠ 9) → (tag b ≠ 46 ∨ j ≠ 10) → (tag b ≠ 46 ∨ j ≠ 11) → (tag b ≠ 46 ∨ j ≠ 12) → (tag b ≠ 46 ∨ j ≠ 13) → (tag b ≠ 46 ∨ j ≠ 14) → (tag b ≠ 46 ∨ j ≠ 15) → fld F b j = fld Fo b j) ∧ (∀ b j : Nat, tag b ≠ 29 → tag b ≠ 34 → tag b ≠ 35 → tag b ≠ 36 → elm F b j = elm Fo b j) := ⟨fun b j n44_7 n44_12 n46_8 n46_9 n46_10 n46_11 n46_12 n46_13 n46_14 n46_15 => (yz23988.1 b j n46_8 n46_9 n46_10 n46_11 n46_12 n46_13 n46_14 n46_15).trans (hfr.1 b j n44_7 n44_12 n46_8 n46_9 n46_10 n46_11 n46_12 n46_13 n46_14 n46_15), fun b j a29 a34 a35 a36 => (yz23988.2 b j ).trans (hfr.2 b j a29 a34 a35 a36)⟩
    have hrel := msr_of (fun j => yz23988.2 _ j ) (fun j => yz23988.2 _ j ) hrel
    have hstk := STK.tr hstk stz23988
    have hspt := SPT.tr hspt ptz23988
    refine lv_istore (lv' := [(6, .int z23988), (5, .int z23987), (4, .int z23986), (3, .int 0), (1, .long z23882), (0, .ref p0)]) hx hb dX13_readStone_109 hl (by decide) rfl (fun ls hl => ?_)
    refine lv_aload_n hx hb dX13_readStone_111 rfl (lv_at hl 5 rfl) ?_
    refine m_ldcKw X 67 rfl dX13_readStone_112 ?_
    refine lv_iconst (v := 1) hx hb dX13_readStone_115 (by decide) ?_
    refine lv_bipush (v := 99) hx hb dX13_readStone_116 (by decide) ?_
    refine t_cVi (n := 3) (C := RX13) (T := TX13) (N := 37) (As := [.ref (G.2 (100 + 67)), .int 1, .int 99]) (rest := []) X hT (km66_X13_readPart l G tag L F hT.2.2.2 p0 67 1 99 x0 x1 x2 soz23988 spz23988 faz23988 m0 g0 (by decide) (by decide) (by decide) mx0 gx0 pf0 mx1 gx1 pf1 mx2 gx2 pf2 (by omega) qsoz23988 (by omega) qspz23988 (by omega) qfaz23988 hkf) m0 g0 rfl rfl qw_552 qw_553 qw_554 qw_5 qw_555 ⟨rfl, by decide +kernel, by decide +kernel, by decide +kernel⟩ ⟨Nat.le_of_ble_eq_true rfl, Nat.le_of_ble_eq_true rfl⟩ hl rfl rfl (Nat.le_of_ble_eq_true rfl) dX13_readStone_118 ⟨Nat.le_of_ble_eq_true rfl, Nat.le_of_ble_eq_true rfl⟩ (fun z23989 F H locs hT hz23989 => ?_)
    obtain ⟨hz23989, yz23989, ⟨soz23989, spz23989, faz23989, qsoz23989, qspz23989, qfaz23989, rsoz23989, rspz23989, rfaz23989, stz23989, ptz23989, hkf⟩⟩ := hz23989
    have pf0 := (yz23989.1 _ 4 (Or.inr (by decide)) (Or.inr (by decide)) (Or.inr (by decide)) (Or.inr (by decide)) (Or.inr (by decide)) (Or.inr (by decide)) (Or.inr (by decide)) (Or.inr (by decide))).trans pf0
    have pf1 := (yz23989.1 _ 28 (Or.inr (by decide)) (Or.inr (by decide)) (Or.inr (by decide)) (Or.inr (by decide)) (Or.inr (by decide)) (Or.inr (by decide)) (Or.inr (by decide)) (Or.inr (by decide))).trans pf1
    have pf2 := (yz23989.1 _ 29 (Or.inr (by decide)) (Or.inr (by decide)) (Or.inr (by decide)) (Or.inr (by decide)) (Or.inr (by decide)) (Or.inr (by decide)) (Or.inr (by decide)) (Or.inr (by decide))).trans pf2
    have pf6 := (yz23989.1 _ 12 (Or.inr (by decide)) (Or.inr (by decide)) (Or.inr (by decide)) (Or.inr (by decide)) (Or.inl (by rw [gx0]; decide)) (Or.inr (by decide)) (Or.inr (by decide)) (Or.inr (by decide))).trans pf6
    have pf7 := (yz23989.1 _ 7 (Or.inr (by decide)) (Or.inr (by decide)) (Or.inr (by decide)) (Or.inr (by decide)) (Or.inr (by decide)) (Or.inr (by decide)) (Or.inr (by decide)) (Or.inr (by decide))).trans pf7
    have pf8 := (yz23989.1 _ 8 (Or.inl (by rw [gx0]; decide)) (Or.inr (by decide)) (Or.inr (by decide)) (Or.inr (by decide)) (Or.inr (by decide)) (Or.inr (by decide)) (Or.inr (by decide)) (Or.inr (by decide))).trans pf8
    have pf9 := (yz23989.1 _ 9 (Or.inr (by decide)) (Or.inl (by rw [gx0]; decide)) (Or.inr (by decide)) (Or.inr (by decide)) (Or.inr (by decide)) (Or.inr (by decide)) (Or.inr (by decide)) (Or.inr (by decide))).trans pf9
    have pf10 := (yz23989.1 _ 10 (Or.inr (by decide)) (Or.inr (by decide)) (Or.inl (by rw [gx0]; decide)) (Or.inr (by decide)) (Or.inr (by decide)) (Or.inr (by decide)) (Or.inr (by decide)) (Or.inr (by decide))).trans pf10
    have pf11 := (yz23989.1 _ 0 (Or.inr (by decide)) (Or.inr (by decide)) (Or.inr (by decide)) (Or.inr (by decide)) (Or.inr (by decide)) (Or.inr (by decide)) (Or.inr (by decide)) (Or.inr (by decide))).trans pf11
    have hfr : (∀ b j : Nat, (tag b ≠ 44 ∨ j ≠ 7) → (tag b ≠ 44 ∨ j ≠ 12) → (tag b ≠ 46 ∨ j ≠ 8) → (tag b ≠ 46 ∨ j ≠ 9) → (tag b ≠ 46 ∨ j ≠ 10) → (tag b ≠ 46 ∨ j ≠ 11) → (tag b ≠ 46 ∨ j ≠ 12) → (tag b ≠ 46 ∨ j ≠ 13) → (tag b ≠ 46 ∨ j ≠ 14) → (tag b ≠ 46 ∨ j ≠ 15) → fld F b j = fld Fo b j) ∧ (∀ b j : Nat, tag b ≠ 29 → tag b ≠ 34 → tag b ≠ 35 → tag b ≠ 36 → elm F b j = elm Fo b j) := ⟨fun b j n44_7 n44_12 n46_8 n46_9 n46_10 n46_11 n46_12 n46_13 n46_14 n46_15 => (yz23989.1 b j n46_8 n46_9 n46_10 n46_11 n46_12 n46_13 n46_14 n46_15).trans (hfr.1 b j n44_7 n44_12 n46_8 n46_9 n46_10 n46_11 n46_12 n46_13 n46_14 n46_15), fun b j a29 a34 a35 a36 => (yz23989.2 b j ).trans (hfr.2 b j a29 a34 a35 a36)⟩
    have hrel := msr_of (fun j => yz23989.2 _ j ) (fun j => yz23989.2 _ j ) hrel
    have hstk := STK.tr hstk stz23989
    have hspt := SPT.tr hspt ptz23989
    refine lv_istore (lv' := [(7, .int z23989), (6, .int z23988), (5, .int z23987), (4, .int z23986), (3, .int 0), (1, .long z23882), (0, .ref p0)]) hx hb dX13_readStone_121 hl (by decide) rfl (fun ls hl => ?_)
    refine lv_aload_n hx hb dX13_readStone_123 rfl (lv_at hl 6 rfl) ?_
    refine t_get (C := RX13) (T := TX13) (N := 37) X hT m0 g0 rfl rfl 9 (by decide) qw_478 inlX13 rfl dX13_readStone_124 (fun v23990 hv23990 ov23990 => ?_)
    obtain rfl : v23990 = .int soz23989 := hv23990.symm.trans qsoz23989
    refine lv_iconst (v := 5) hx hb dX13_readStone_127 (by decide) ?_
    refine lv_icmp_ne (tgt := 132) hx hb dX13_readStone_128 (by decide) (fun c23991 => ?_) (fun c23991 => ?_)
    · have w23992 := cv_ne (rfl : soz23989.toInt = soz23989.toInt) (by decide : (5 : Int32).toInt = 5) c23991
      have w23993 := (fun (h9 : soz23989.toInt ≠ 5) => (fun (h9 : soz23988.toInt ≠ 5) => (fun (h9 : soz23987.toInt ≠ 5) => (fun (h9 : soz23986.toInt ≠ 5) => (fun (h9 : soz23985.toInt ≠ 5) => (fun (h9 : soz23882.toInt ≠ 5) => pxz23880_0 (fun e9 => h9 (stz23882 e9))) (fun e9 => h9 (stz23985 e9))) (fun e9 => h9 (stz23986 e9))) (fun e9 => h9 (stz23987 e9))) (fun e9 => h9 (stz23988 e9))) (fun e9 => h9 (stz23989 e9))) (by omega)
      have w23994 := (fun (h9 : soz23989.toInt ≠ 5) => (fun (h9 : soz23988.toInt ≠ 5) => (fun (h9 : soz23987.toInt ≠ 5) => (fun (h9 : soz23986.toInt ≠ 5) => (fun (h9 : soz23985.toInt ≠ 5) => (fun (h9 : soz23882.toInt ≠ 5) => pxz23880_0 (fun e9 => h9 (stz23882 e9))) (fun e9 => h9 (stz23985 e9))) (fun e9 => h9 (stz23986 e9))) (fun e9 => h9 (stz23987 e9))) (fun e9 => h9 (stz23988 e9))) (fun e9 => h9 (stz23989 e9))) (by omega)
      refine lv_aload_n hx hb dX13_readStone_132 rfl (lv_at hl 6 rfl) ?_
      refine t_get (C := RX13) (T := TX13) (N := 37) X hT m0 g0 rfl rfl 4 (by decide) qw_477 inlX13 rfl dX13_readStone_133 (fun v23995 hv23995 ov23995 => ?_)
      obtain rfl : v23995 = .ref x0 := hv23995.symm.trans pf0
      refine t_getN (C := RX12) (T := TX12) (N := 31) X hT mx0 gx0 rfl rfl 7 (by decide) (List.mem_of_getElem? (i := 11) rfl) inlX12 rfl dX13_readStone_136 (fun v23996 hv23996 ov23996 => ?_)
      obtain rfl : v23996 = .int x7 := hv23996.symm.trans pf7
      refine lv_istore (lv' := [(8, .int x7), (7, .int z23989), (6, .int z23988), (5, .int z23987), (4, .int z23986), (3, .int 0), (1, .long z23882), (0, .ref p0)]) hx hb dX13_readStone_139 hl (by decide) rfl (fun ls hl => ?_)
      refine lv_aload_n hx hb dX13_readStone_141 rfl (lv_at hl 7 rfl) ?_
      refine lv_lload_n hx hb dX13_readStone_142 rfl (lv_at hl 6 rfl) ?_
      refine lv_iconst (v := 0) hx hb dX13_readStone_143 (by decide) ?_
      refine lv_iload hx hb dX13_readStone_144 (lv_at hl 0 rfl) ?_
      have w23997 : 0 ≤ x6.toInt ∧ x6.toInt ≤ 20 := by omega
      refine t_cVv (n := 3) (C := RX13) (T := TX13) (N := 37) (As := [.long z23882, .int 0, .int x7]) (rest := []) X hT (km67_X13_names l G tag L F hT.2.2.2 p0 z23882 0 x7 x0 x1 x2 x6 m0 g0 (by decide) (by omega) mx0 gx0 pf0 mx1 gx1 pf1 mx2 gx2 pf2 (by omega) pf6 hrel) m0 g0 rfl rfl qw_608 qw_609 qw_610 qw_5 qw_611 ⟨rfl, by decide +kernel, by decide +kernel, by decide +kernel⟩ ⟨Nat.le_of_ble_eq_true rfl, Nat.le_of_ble_eq_true rfl⟩ hl rfl rfl (Nat.le_of_ble_eq_true rfl) dX13_readStone_146 ⟨Nat.le_of_ble_eq_true rfl, Nat.le_of_ble_eq_true rfl⟩ (fun F H locs hT hz23998 => ?_)
      obtain ⟨yz23998, hrel, xz23998_0⟩ := hz23998
      have pf0 := (yz23998.1 _ 4 (Or.inr (by decide))).trans pf0
      have pf1 := (yz23998.1 _ 28 (Or.inr (by decide))).trans pf1
      have pf2 := (yz23998.1 _ 29 (Or.inr (by decide))).trans pf2
      have pf7 := (yz23998.1 _ 7 (Or.inr (by decide))).trans pf7
      have pf8 := (yz23998.1 _ 8 (Or.inr (by decide))).trans pf8
      have pf9 := (yz23998.1 _ 9 (Or.inr (by decide))).trans pf9
      have pf10 := (yz23998.1 _ 10 (Or.inr (by decide))).trans pf10
      have pf11 := (yz23998.1 _ 0 (Or.inr (by decide))).trans pf11
      have qsoz23989 := (yz23998.1 _ 9 (Or.inr (by decide))).trans qsoz23989
      have qspz23989 := (yz23998.1 _ 8 (Or.inr (by decide))).trans qspz23989
      have qfaz23989 := (yz23998.1 _ 13 (Or.inr (by decide))).trans qfaz23989
      have hfr : (∀ b j : Nat, (tag b ≠ 44 ∨ j ≠ 7) → (tag b ≠ 44 ∨ j ≠ 12) → (tag b ≠ 46 ∨ j ≠ 8) → (tag b ≠ 46 ∨ j ≠ 9) → (tag b ≠ 46 ∨ j ≠ 10) → (tag b ≠ 46 ∨ j ≠ 11) → (tag b ≠ 46 ∨ j ≠ 12) → (tag b ≠ 46 ∨ j ≠ 13) → (tag b ≠ 46 ∨ j ≠ 14) → (tag b ≠ 46 ∨ j ≠ 15) → fld F b j = fld Fo b j) ∧ (∀ b j : Nat, tag b ≠ 29 → tag b ≠ 34 → tag b ≠ 35 → tag b ≠ 36 → elm F b j = elm Fo b j) := ⟨fun b j n44_7 n44_12 n46_8 n46_9 n46_10 n46_11 n46_12 n46_13 n46_14 n46_15 => (yz23998.1 b j n44_12).trans (hfr.1 b j n44_7 n44_12 n46_8 n46_9 n46_10 n46_11 n46_12 n46_13 n46_14 n46_15), fun b j a29 a34 a35 a36 => (yz23998.2 b j a34 a35 a36).trans (hfr.2 b j a29 a34 a35 a36)⟩
      obtain ⟨z23999, qz23999, hz23999⟩ := xz23998_0
      have rz23999 : 0 ≤ z23999.toInt ∧ z23999.toInt ≤ 32 := by omega
      refine lv_aload_n hx hb dX13_readStone_149 rfl (lv_at hl 7 rfl) ?_
      refine t_get (C := RX13) (T := TX13) (N := 37) X hT m0 g0 rfl rfl 4 (by decide) qw_477 inlX13 rfl dX13_readStone_150 (fun v24000 hv24000 ov24000 => ?_)
      obtain rfl : v24000 = .ref x0 := hv24000.symm.trans pf0
      refine t_getN (C := RX12) (T := TX12) (N := 31) X hT mx0 gx0 rfl rfl 16 (by decide) (List.mem_of_getElem? (i := 20) rfl) inlX12 rfl dX13_readStone_153 (fun v24001 hv24001 ov24001 => ?_)
      obtain ⟨b24002, rfl, mb24002, gb24002⟩ := okV_r ov24001
      have gb24002 : tag b24002 = 29 := tg_of gb24002
      refine lv_iload hx hb dX13_readStone_156 (lv_at hl 0 rfl) ?_
      refine lv_iload_n hx hb dX13_readStone_158 rfl (lv_at hl 5 rfl) ?_
      refine t_ist X hT mb24002 gb24002 rfl (by omega) (show (-2147483648) ≤ (0 : Int32).toInt ∧ (0 : Int32).toInt ≤ 2147483647 from (rg_all _)) dX13_readStone_159 (fun F H locs hT v24003 h1v24003 h2v24003 => ?_)
      have pf0 := (h2v24003 _ _).trans pf0
      have pf1 := (h2v24003 _ _).trans pf1
      have pf2 := (h2v24003 _ _).trans pf2
      have pf7 := (h2v24003 _ _).trans pf7
      have pf8 := (h2v24003 _ _).trans pf8
      have pf9 := (h2v24003 _ _).trans pf9
      have pf10 := (h2v24003 _ _).trans pf10
      have pf11 := (h2v24003 _ _).trans pf11
      have qsoz23989 := (h2v24003 _ _).trans qsoz23989
      have qspz23989 := (h2v24003 _ _).trans qspz23989
      have qfaz23989 := (h2v24003 _ _).trans qfaz23989
      have qz23999 := (h2v24003 _ _).trans qz23999
      have hv24001 := (h2v24003 _ _).trans hv24001
      have hfr : (∀ b j : Nat, (tag b ≠ 44 ∨ j ≠ 7) → (tag b ≠ 44 ∨ j ≠ 12) → (tag b ≠ 46 ∨ j ≠ 8) → (tag b ≠ 46 ∨ j ≠ 9) → (tag b ≠ 46 ∨ j ≠ 10) → (tag b ≠ 46 ∨ j ≠ 11) → (tag b ≠ 46 ∨ j ≠ 12) → (tag b ≠ 46 ∨ j ≠ 13) → (tag b ≠ 46 ∨ j ≠ 14) → (tag b ≠ 46 ∨ j ≠ 15) → fld F b j = fld Fo b j) ∧ (∀ b j : Nat, tag b ≠ 29 → tag b ≠ 34 → tag b ≠ 35 → tag b ≠ 36 → elm F b j = elm Fo b j) := ⟨fun b j n44_7 n44_12 n46_8 n46_9 n46_10 n46_11 n46_12 n46_13 n46_14 n46_15 => (h2v24003 b j).trans (hfr.1 b j n44_7 n44_12 n46_8 n46_9 n46_10 n46_11 n46_12 n46_13 n46_14 n46_15), fun b j a29 a34 a35 a36 => (h1v24003 b j (Or.inl (at_ne gb24002 a29))).trans (hfr.2 b j a29 a34 a35 a36)⟩
      have hrel := msr_of (fun j => h1v24003 _ j (Or.inl (tne gx1 gb24002 (by decide)))) (fun j => h1v24003 _ j (Or.inl (tne gx2 gb24002 (by decide)))) hrel
      refine lv_aload_n hx hb dX13_readStone_160 rfl (lv_at hl 7 rfl) ?_
      refine t_get (C := RX13) (T := TX13) (N := 37) X hT m0 g0 rfl rfl 4 (by decide) qw_477 inlX13 rfl dX13_readStone_161 (fun v24004 hv24004 ov24004 => ?_)
      obtain rfl : v24004 = .ref x0 := hv24004.symm.trans pf0
      refine t_getN (C := RX12) (T := TX12) (N := 31) X hT mx0 gx0 rfl rfl 17 (by decide) (List.mem_of_getElem? (i := 21) rfl) inlX12 rfl dX13_readStone_164 (fun v24005 hv24005 ov24005 => ?_)
      obtain ⟨b24006, rfl, mb24006, gb24006⟩ := okV_r ov24005
      have gb24006 : tag b24006 = 29 := tg_of gb24006
      refine lv_iload hx hb dX13_readStone_167 (lv_at hl 0 rfl) ?_
      refine lv_iload hx hb dX13_readStone_169 (lv_at hl 4 rfl) ?_
      refine t_ist X hT mb24006 gb24006 rfl (by omega) (show (-2147483648) ≤ (z23986 : Int32).toInt ∧ (z23986 : Int32).toInt ≤ 2147483647 from (rg_all _)) dX13_readStone_171 (fun F H locs hT v24007 h1v24007 h2v24007 => ?_)
      have pf0 := (h2v24007 _ _).trans pf0
      have pf1 := (h2v24007 _ _).trans pf1
      have pf2 := (h2v24007 _ _).trans pf2
      have pf7 := (h2v24007 _ _).trans pf7
      have pf8 := (h2v24007 _ _).trans pf8
      have pf9 := (h2v24007 _ _).trans pf9
      have pf10 := (h2v24007 _ _).trans pf10
      have pf11 := (h2v24007 _ _).trans pf11
      have qsoz23989 := (h2v24007 _ _).trans qsoz23989
      have qspz23989 := (h2v24007 _ _).trans qspz23989
      have qfaz23989 := (h2v24007 _ _).trans qfaz23989
      have qz23999 := (h2v24007 _ _).trans qz23999
      have hv24001 := (h2v24007 _ _).trans hv24001
      have hv24005 := (h2v24007 _ _).trans hv24005
      have hfr : (∀ b j : Nat, (tag b ≠ 44 ∨ j ≠ 7) → (tag b ≠ 44 ∨ j ≠ 12) → (tag b ≠ 46 ∨ j ≠ 8) → (tag b ≠ 46 ∨ j ≠ 9) → (tag b ≠ 46 ∨ j ≠ 10) → (tag b ≠ 46 ∨ j ≠ 11) → (tag b ≠ 46 ∨ j ≠ 12) → (tag b ≠ 46 ∨ j ≠ 13) → (tag b ≠ 46 ∨ j ≠ 14) → (tag b ≠ 46 ∨ j ≠ 15) → fld F b j = fld Fo b j) ∧ (∀ b j : Nat, tag b ≠ 29 → tag b ≠ 34 → tag b ≠ 35 → tag b ≠ 36 → elm F b j = elm Fo b j) := ⟨fun b j n44_7 n44_12 n46_8 n46_9 n46_10 n46_11 n46_12 n46_13 n46_14 n46_15 => (h2v24007 b j).trans (hfr.1 b j n44_7 n44_12 n46_8 n46_9 n46_10 n46_11 n46_12 n46_13 n46_14 n46_15), fun b j a29 a34 a35 a36 => (h1v24007 b j (Or.inl (at_ne gb24006 a29))).trans (hfr.2 b j a29 a34 a35 a36)⟩
      have hrel := msr_of (fun j => h1v24007 _ j (Or.inl (tne gx1 gb24006 (by decide)))) (fun j => h1v24007 _ j (Or.inl (tne gx2 gb24006 (by decide)))) hrel
      refine lv_aload_n hx hb dX13_readStone_172 rfl (lv_at hl 7 rfl) ?_
      refine t_get (C := RX13) (T := TX13) (N := 37) X hT m0 g0 rfl rfl 4 (by decide) qw_477 inlX13 rfl dX13_readStone_173 (fun v24008 hv24008 ov24008 => ?_)
      obtain rfl : v24008 = .ref x0 := hv24008.symm.trans pf0
      refine t_getN (C := RX12) (T := TX12) (N := 31) X hT mx0 gx0 rfl rfl 18 (by decide) (List.mem_of_getElem? (i := 22) rfl) inlX12 rfl dX13_readStone_176 (fun v24009 hv24009 ov24009 => ?_)
      obtain ⟨b24010, rfl, mb24010, gb24010⟩ := okV_r ov24009
      have gb24010 : tag b24010 = 29 := tg_of gb24010
      refine lv_iload hx hb dX13_readStone_179 (lv_at hl 0 rfl) ?_
      refine lv_iload hx hb dX13_readStone_181 (lv_at hl 3 rfl) ?_
      refine t_ist X hT mb24010 gb24010 rfl (by omega) (show (-2147483648) ≤ (z23987 : Int32).toInt ∧ (z23987 : Int32).toInt ≤ 2147483647 from (rg_all _)) dX13_readStone_183 (fun F H locs hT v24011 h1v24011 h2v24011 => ?_)
      have pf0 := (h2v24011 _ _).trans pf0
      have pf1 := (h2v24011 _ _).trans pf1
      have pf2 := (h2v24011 _ _).trans pf2
      have pf7 := (h2v24011 _ _).trans pf7
      have pf8 := (h2v24011 _ _).trans pf8
      have pf9 := (h2v24011 _ _).trans pf9
      have pf10 := (h2v24011 _ _).trans pf10
      have pf11 := (h2v24011 _ _).trans pf11
      have qsoz23989 := (h2v24011 _ _).trans qsoz23989
      have qspz23989 := (h2v24011 _ _).trans qspz23989
      have qfaz23989 := (h2v24011 _ _).trans qfaz23989
      have qz23999 := (h2v24011 _ _).trans qz23999
      have hv24001 := (h2v24011 _ _).trans hv24001
      have hv24005 := (h2v24011 _ _).trans hv24005
      have hv24009 := (h2v24011 _ _).trans hv24009
      have hfr : (∀ b j : Nat, (tag b ≠ 44 ∨ j ≠ 7) → (tag b ≠ 44 ∨ j ≠ 12) → (tag b ≠ 46 ∨ j ≠ 8) → (tag b ≠ 46 ∨ j ≠ 9) → (tag b ≠ 46 ∨ j ≠ 10) → (tag b ≠ 46 ∨ j ≠ 11) → (tag b ≠ 46 ∨ j ≠ 12) → (tag b ≠ 46 ∨ j ≠ 13) → (tag b ≠ 46 ∨ j ≠ 14) → (tag b ≠ 46 ∨ j ≠ 15) → fld F b j = fld Fo b j) ∧ (∀ b j : Nat, tag b ≠ 29 → tag b ≠ 34 → tag b ≠ 35 → tag b ≠ 36 → elm F b j = elm Fo b j) := ⟨fun b j n44_7 n44_12 n46_8 n46_9 n46_10 n46_11 n46_12 n46_13 n46_14 n46_15 => (h2v24011 b j).trans (hfr.1 b j n44_7 n44_12 n46_8 n46_9 n46_10 n46_11 n46_12 n46_13 n46_14 n46_15), fun b j a29 a34 a35 a36 => (h1v24011 b j (Or.inl (at_ne gb24010 a29))).trans (hfr.2 b j a29 a34 a35 a36)⟩
      have hrel := msr_of (fun j => h1v24011 _ j (Or.inl (tne gx1 gb24010 (by decide)))) (fun j => h1v24011 _ j (Or.inl (tne gx2 gb24010 (by decide)))) hrel
      refine lv_aload_n hx hb dX13_readStone_184 rfl (lv_at hl 7 rfl) ?_
      refine t_get (C := RX13) (T := TX13) (N := 37) X hT m0 g0 rfl rfl 4 (by decide) qw_477 inlX13 rfl dX13_readStone_185 (fun v24012 hv24012 ov24012 => ?_)
      obtain rfl : v24012 = .ref x0 := hv24012.symm.trans pf0
      refine t_getN (C := RX12) (T := TX12) (N := 31) X hT mx0 gx0 rfl rfl 19 (by decide) (List.mem_of_getElem? (i := 23) rfl) inlX12 rfl dX13_readStone_188 (fun v24013 hv24013 ov24013 => ?_)
      obtain ⟨b24014, rfl, mb24014, gb24014⟩ := okV_r ov24013
      have gb24014 : tag b24014 = 29 := tg_of gb24014
      refine lv_iload hx hb dX13_readStone_191 (lv_at hl 0 rfl) ?_
      refine lv_iload hx hb dX13_readStone_193 (lv_at hl 2 rfl) ?_
      refine t_ist X hT mb24014 gb24014 rfl (by omega) (show (-2147483648) ≤ (z23988 : Int32).toInt ∧ (z23988 : Int32).toInt ≤ 2147483647 from (rg_all _)) dX13_readStone_195 (fun F H locs hT v24015 h1v24015 h2v24015 => ?_)
      have pf0 := (h2v24015 _ _).trans pf0
      have pf1 := (h2v24015 _ _).trans pf1
      have pf2 := (h2v24015 _ _).trans pf2
      have pf7 := (h2v24015 _ _).trans pf7
      have pf8 := (h2v24015 _ _).trans pf8
      have pf9 := (h2v24015 _ _).trans pf9
      have pf10 := (h2v24015 _ _).trans pf10
      have pf11 := (h2v24015 _ _).trans pf11
      have qsoz23989 := (h2v24015 _ _).trans qsoz23989
      have qspz23989 := (h2v24015 _ _).trans qspz23989
      have qfaz23989 := (h2v24015 _ _).trans qfaz23989
      have qz23999 := (h2v24015 _ _).trans qz23999
      have hv24001 := (h2v24015 _ _).trans hv24001
      have hv24005 := (h2v24015 _ _).trans hv24005
      have hv24009 := (h2v24015 _ _).trans hv24009
      have hv24013 := (h2v24015 _ _).trans hv24013
      have hfr : (∀ b j : Nat, (tag b ≠ 44 ∨ j ≠ 7) → (tag b ≠ 44 ∨ j ≠ 12) → (tag b ≠ 46 ∨ j ≠ 8) → (tag b ≠ 46 ∨ j ≠ 9) → (tag b ≠ 46 ∨ j ≠ 10) → (tag b ≠ 46 ∨ j ≠ 11) → (tag b ≠ 46 ∨ j ≠ 12) → (tag b ≠ 46 ∨ j ≠ 13) → (tag b ≠ 46 ∨ j ≠ 14) → (tag b ≠ 46 ∨ j ≠ 15) → fld F b j = fld Fo b j) ∧ (∀ b j : Nat, tag b ≠ 29 → tag b ≠ 34 → tag b ≠ 35 → tag b ≠ 36 → elm F b j = elm Fo b j) := ⟨fun b j n44_7 n44_12 n46_8 n46_9 n46_10 n46_11 n46_12 n46_13 n46_14 n46_15 => (h2v24015 b j).trans (hfr.1 b j n44_7 n44_12 n46_8 n46_9 n46_10 n46_11 n46_12 n46_13 n46_14 n46_15), fun b j a29 a34 a35 a36 => (h1v24015 b j (Or.inl (at_ne gb24014 a29))).trans (hfr.2 b j a29 a34 a35 a36)⟩
      have hrel := msr_of (fun j => h1v24015 _ j (Or.inl (tne gx1 gb24014 (by decide)))) (fun j => h1v24015 _ j (Or.inl (tne gx2 gb24014 (by decide)))) hrel
      refine lv_aload_n hx hb dX13_readStone_196 rfl (lv_at hl 7 rfl) ?_
      refine t_get (C := RX13) (T := TX13) (N := 37) X hT m0 g0 rfl rfl 4 (by decide) qw_477 inlX13 rfl dX13_readStone_197 (fun v24016 hv24016 ov24016 => ?_)
      obtain rfl : v24016 = .ref x0 := hv24016.symm.trans pf0
      refine t_getN (C := RX12) (T := TX12) (N := 31) X hT mx0 gx0 rfl rfl 20 (by decide) (List.mem_of_getElem? (i := 24) rfl) inlX12 rfl dX13_readStone_200 (fun v24017 hv24017 ov24017 => ?_)
      obtain ⟨b24018, rfl, mb24018, gb24018⟩ := okV_r ov24017
      have gb24018 : tag b24018 = 29 := tg_of gb24018
      refine lv_iload hx hb dX13_readStone_203 (lv_at hl 0 rfl) ?_
      refine lv_iload hx hb dX13_readStone_205 (lv_at hl 1 rfl) ?_
      refine t_ist X hT mb24018 gb24018 rfl (by omega) (show (-2147483648) ≤ (z23989 : Int32).toInt ∧ (z23989 : Int32).toInt ≤ 2147483647 from (rg_all _)) dX13_readStone_207 (fun F H locs hT v24019 h1v24019 h2v24019 => ?_)
      have pf0 := (h2v24019 _ _).trans pf0
      have pf1 := (h2v24019 _ _).trans pf1
      have pf2 := (h2v24019 _ _).trans pf2
      have pf7 := (h2v24019 _ _).trans pf7
      have pf8 := (h2v24019 _ _).trans pf8
      have pf9 := (h2v24019 _ _).trans pf9
      have pf10 := (h2v24019 _ _).trans pf10
      have pf11 := (h2v24019 _ _).trans pf11
      have qsoz23989 := (h2v24019 _ _).trans qsoz23989
      have qspz23989 := (h2v24019 _ _).trans qspz23989
      have qfaz23989 := (h2v24019 _ _).trans qfaz23989
      have qz23999 := (h2v24019 _ _).trans qz23999
      have hv24001 := (h2v24019 _ _).trans hv24001
      have hv24005 := (h2v24019 _ _).trans hv24005
      have hv24009 := (h2v24019 _ _).trans hv24009
      have hv24013 := (h2v24019 _ _).trans hv24013
      have hv24017 := (h2v24019 _ _).trans hv24017
      have hfr : (∀ b j : Nat, (tag b ≠ 44 ∨ j ≠ 7) → (tag b ≠ 44 ∨ j ≠ 12) → (tag b ≠ 46 ∨ j ≠ 8) → (tag b ≠ 46 ∨ j ≠ 9) → (tag b ≠ 46 ∨ j ≠ 10) → (tag b ≠ 46 ∨ j ≠ 11) → (tag b ≠ 46 ∨ j ≠ 12) → (tag b ≠ 46 ∨ j ≠ 13) → (tag b ≠ 46 ∨ j ≠ 14) → (tag b ≠ 46 ∨ j ≠ 15) → fld F b j = fld Fo b j) ∧ (∀ b j : Nat, tag b ≠ 29 → tag b ≠ 34 → tag b ≠ 35 → tag b ≠ 36 → elm F b j = elm Fo b j) := ⟨fun b j n44_7 n44_12 n46_8 n46_9 n46_10 n46_11 n46_12 n46_13 n46_14 n46_15 => (h2v24019 b j).trans (hfr.1 b j n44_7 n44_12 n46_8 n46_9 n46_10 n46_11 n46_12 n46_13 n46_14 n46_15), fun b j a29 a34 a35 a36 => (h1v24019 b j (Or.inl (at_ne gb24018 a29))).trans (hfr.2 b j a29 a34 a35 a36)⟩
      have hrel := msr_of (fun j => h1v24019 _ j (Or.inl (tne gx1 gb24018 (by decide)))) (fun j => h1v24019 _ j (Or.inl (tne gx2 gb24018 (by decide)))) hrel
      refine lv_aload_n hx hb dX13_readStone_208 rfl (lv_at hl 7 rfl) ?_
      refine t_get (C := RX13) (T := TX13) (N := 37) X hT m0 g0 rfl rfl 4 (by decide) qw_477 inlX13 rfl dX13_readStone_209 (fun v24020 hv24020 ov24020 => ?_)
      obtain rfl : v24020 = .ref x0 := hv24020.symm.trans pf0
      refine lv_dup hx hb dX13_readStone_212 rfl ?_
      refine t_getN (C := RX12) (T := TX12) (N := 31) X hT mx0 gx0 rfl rfl 7 (by decide) (List.mem_of_getElem? (i := 11) rfl) inlX12 rfl dX13_readStone_213 (fun v24021 hv24021 ov24021 => ?_)
      obtain rfl : v24021 = .int x7 := hv24021.symm.trans pf7
      refine lv_iconst (v := 1) hx hb dX13_readStone_216 (by decide) ?_
      refine lv_iadd hx hb dX13_readStone_217 ?_
      refine lv_topi (fun z24022 ez24022 => ?_)
      have hz24022 : z24022.toInt = x7.toInt + 1 := ar_add ez24022 (rfl : x7.toInt = x7.toInt) (by decide : (1 : Int32).toInt = 1) (by omega) (by omega)
      have rz24022 : 1 ≤ z24022.toInt ∧ z24022.toInt ≤ 4 := by omega
      refine t_putN (C := RX12) (T := TX12) (N := 31) (v := .int z24022) X hT mx0 gx0 rfl tyX12 tyX12_ok nmX12 rfl 7 (by decide) (List.mem_of_getElem? (i := 11) rfl) inlX12 rfl (by first | rfl | decide) (by first | rfl | decide) rfl (⟨_, rfl, (show 0 ≤ (z24022 : Int32).toInt from (by omega)), (show (z24022 : Int32).toInt ≤ 4 from (by omega))⟩) dX13_readStone_218 (fun F H locs hT v24023 h1v24023 h2v24023 => ?_)
      have pf0 := (h1v24023 _ _ (Or.inr (by decide))).trans pf0
      have pf1 := (h1v24023 _ _ (Or.inr (by decide))).trans pf1
      have pf2 := (h1v24023 _ _ (Or.inr (by decide))).trans pf2
      have pf8 := (h1v24023 _ _ (Or.inr (by decide))).trans pf8
      have pf9 := (h1v24023 _ _ (Or.inr (by decide))).trans pf9
      have pf10 := (h1v24023 _ _ (Or.inr (by decide))).trans pf10
      have pf11 := (h1v24023 _ _ (Or.inr (by decide))).trans pf11
      have qsoz23989 := (h1v24023 _ _ (Or.inr (by decide))).trans qsoz23989
      have qspz23989 := (h1v24023 _ _ (Or.inr (by decide))).trans qspz23989
      have qfaz23989 := (h1v24023 _ _ (Or.inr (by decide))).trans qfaz23989
      have qz23999 := (h1v24023 _ _ (Or.inr (by decide))).trans qz23999
      have hv24001 := (h1v24023 _ _ (Or.inr (by decide))).trans hv24001
      have hv24005 := (h1v24023 _ _ (Or.inr (by decide))).trans hv24005
      have hv24009 := (h1v24023 _ _ (Or.inr (by decide))).trans hv24009
      have hv24013 := (h1v24023 _ _ (Or.inr (by decide))).trans hv24013
      have hv24017 := (h1v24023 _ _ (Or.inr (by decide))).trans hv24017
      have v24019 := (h2v24023 _ _).trans v24019
      have hfr : (∀ b j : Nat, (tag b ≠ 44 ∨ j ≠ 7) → (tag b ≠ 44 ∨ j ≠ 12) → (tag b ≠ 46 ∨ j ≠ 8) → (tag b ≠ 46 ∨ j ≠ 9) → (tag b ≠ 46 ∨ j ≠ 10) → (tag b ≠ 46 ∨ j ≠ 11) → (tag b ≠ 46 ∨ j ≠ 12) → (tag b ≠ 46 ∨ j ≠ 13) → (tag b ≠ 46 ∨ j ≠ 14) → (tag b ≠ 46 ∨ j ≠ 15) → fld F b j = fld Fo b j) ∧ (∀ b j : Nat, tag b ≠ 29 → tag b ≠ 34 → tag b ≠ 35 → tag b ≠ 36 → elm F b j = elm Fo b j) := ⟨fun b j n44_7 n44_12 n46_8 n46_9 n46_10 n46_11 n46_12 n46_13 n46_14 n46_15 => (h1v24023 b j (fr_ne gx0 n44_7)).trans (hfr.1 b j n44_7 n44_12 n46_8 n46_9 n46_10 n46_11 n46_12 n46_13 n46_14 n46_15), fun b j a29 a34 a35 a36 => (h2v24023 b j).trans (hfr.2 b j a29 a34 a35 a36)⟩
      have hrel := msr_of (fun j => h2v24023 _ j) (fun j => h2v24023 _ j) hrel
      have hpu9 := hpl
      unfold PLr at hpu9
      have hpl : PLr z23999 z24022 x8 x9 x10 x11 := ⟨by omega, fun _ => by omega⟩
      exact t_vret hQ X hT ⟨hfr, hrel, ⟨soz23989, spz23989, faz23989, qsoz23989, qspz23989, qfaz23989, (by omega), (by omega), (by omega), hstk, hspt, hkf⟩, ⟨z23999, z24022, x8, x9, x10, x11, qz23999, v24023, pf8, pf9, pf10, pf11, (by omega), (by omega), (by omega), (by omega), (by omega), (by omega), hpl⟩⟩ (Nat.le_of_ble_eq_true rfl) (Nat.le_of_ble_eq_true rfl) dX13_readStone_221
    · have w24024 := cv_eq (rfl : soz23989.toInt = soz23989.toInt) (by decide : (5 : Int32).toInt = 5) c23991
      exact t_vret hQ X hT ⟨hfr, hrel, ⟨soz23989, spz23989, faz23989, qsoz23989, qspz23989, qfaz23989, (by omega), (by omega), (by omega), hstk, hspt, hkf⟩, ⟨x6, x7, x8, x9, x10, x11, pf6, pf7, pf8, pf9, pf10, pf11, (by omega), (by omega), (by omega), (by omega), (by omega), (by omega), hpl⟩⟩ (Nat.le_of_ble_eq_true rfl) (Nat.le_of_ble_eq_true rfl) dX13_readStone_131
