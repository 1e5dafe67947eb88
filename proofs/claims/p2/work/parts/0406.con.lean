set_option maxHeartbeats 4000000 in
set_option maxRecDepth 100000 in
theorem km35_X13_known (l : Launch) (G : KG) (tag : Nat → Nat) (L : List Nat) (Fo : Nat → va_E) (ho : okT G ttC tag L Fo) (p0 : Nat) (p1 : Int32) (x0 : Nat) (x1 : Nat) (x2 : Nat) (x3 : Int32) (x4 : Int32) (x5 : Int32) (m0 : p0 ∈ L) (g0 : tag p0 = 46) (h1 : 0 ≤ p1.toInt ∧ p1.toInt ≤ 0) (mx0 : x0 ∈ L) (gx0 : tag x0 = 44) (pf0 : fld Fo p0 4 = .ref x0) (mx1 : x1 ∈ L) (gx1 : tag x1 = 35) (pf1 : fld Fo x0 28 = .ref x1) (mx2 : x2 ∈ L) (gx2 : tag x2 = 36) (pf2 : fld Fo x0 29 = .ref x2) (hx3 : 0 ≤ x3.toInt ∧ x3.toInt ≤ 5) (pf3 : fld Fo p0 9 = .int x3) (hx4 : 0 ≤ x4.toInt ∧ x4.toInt ≤ 1000) (pf4 : fld Fo p0 8 = .int x4) (hx5 : 0 ≤ x5.toInt ∧ x5.toInt ≤ 7) (pf5 : fld Fo p0 13 = .int x5) (hrel : MSR Fo x1 x2) (hkf : KF x3 x5) : TMi l yX13_known cX13_known 3 (some .int) { frames := 7, cells := 0, slots := 0, locals := 149 } G ttC tag L Fo [.ref p0, .int p1] (fun r F1 => (0 ≤ r.toInt ∧ r.toInt ≤ 3) ∧ ((∀ b j : Nat, (tag b ≠ 46 ∨ j ≠ 9) → (tag b ≠ 46 ∨ j ≠ 13) → (tag b ≠ 46 ∨ j ≠ 14) → fld F1 b j = fld Fo b j) ∧ (∀ b j : Nat, elm F1 b j = elm Fo b j)) ∧ (MSR F1 x1 x2) ∧ (∃ so sp fa : Int32, fld F1 p0 9 = .int so ∧ fld F1 p0 8 = .int sp ∧ fld F1 p0 13 = .int fa ∧ (0 ≤ so.toInt ∧ so.toInt ≤ 5) ∧ (0 ≤ sp.toInt ∧ sp.toInt ≤ 1000) ∧ (0 ≤ fa.toInt ∧ fa.toInt ≤ 7) ∧ STK x3 so ∧ SPT x3 x4 so sp ∧ KF so fa)) := by
  refine t_bodyi (y := yX13_known) (cd := cX13_known) (mL := 3) (rt := (some .int)) (rm := { frames := 7, cells := 0, slots := 0, locals := 149 }) (av := [.ref p0, .int p1]) (by decide) (Nat.le_of_ble_eq_true rfl) ho ?_
  intro p e s m args below meth c ls A Q hQ X hT hl
  have hx := X.1.1
  have hb := X.1.2.1
  have hl : lv_has ls 3 [(0, .ref p0), (1, .int p1)] := hl
  obtain ⟨F, hFo⟩ : ∃ F : Nat → va_E, F = Fo := ⟨_, rfl⟩
  rw [← hFo] at hT pf0 pf1 pf2 pf3 pf4 pf5 hrel
  have hfr : (∀ b j : Nat, (tag b ≠ 46 ∨ j ≠ 9) → (tag b ≠ 46 ∨ j ≠ 13) → (tag b ≠ 46 ∨ j ≠ 14) → fld F b j = fld Fo b j) ∧ (∀ b j : Nat, elm F b j = elm Fo b j) := by
    rw [hFo]
    exact ⟨by intros; rfl, by intros; rfl⟩
  have hstk : STK x3 x3 := STK.rf
  have hspt : SPT x3 x4 x3 x4 := SPT.rf
  refine lv_aload_n hx hb dX13_known_0 rfl (lv_at hl 0 rfl) ?_
  refine t_cVi (n := 0) (C := RX13) (T := TX13) (N := 37) (As := []) (rest := []) X hT (km16_X13_isName l G tag L F hT.2.2.2 p0 x3 m0 g0 (by omega) pf3) m0 g0 rfl rfl qw_599 qw_600 qw_601 qw_5 qw_602 ⟨rfl, by decide +kernel, by decide +kernel, by decide +kernel⟩ ⟨Nat.le_of_ble_eq_true rfl, Nat.le_of_ble_eq_true rfl⟩ hl rfl rfl (Nat.le_of_ble_eq_true rfl) dX13_known_1 ⟨Nat.le_of_ble_eq_true rfl, Nat.le_of_ble_eq_true rfl⟩ (fun z14114 F9 H locs hT hz14114 => ?_)
  obtain ⟨fz14114, hz14114⟩ := hz14114
  rw [fz14114] at hT
  refine lv_if_ne (tgt := 12) hx hb dX13_known_4 (by decide) (fun c14115 => ?_) (fun c14115 => ?_)
  · have w14116 := cv_ne (rfl : z14114.toInt = z14114.toInt) (by decide : (0 : Int32).toInt = 0) c14115
    refine lv_aload_n hx hb dX13_known_12 rfl (lv_at hl 0 rfl) ?_
    refine t_get (C := RX13) (T := TX13) (N := 37) X hT m0 g0 rfl rfl 4 (by decide) qw_477 inlX13 rfl dX13_known_13 (fun v14117 hv14117 ov14117 => ?_)
    obtain rfl : v14117 = .ref x0 := hv14117.symm.trans pf0
    refine lv_aload_n hx hb dX13_known_16 rfl (lv_at hl 0 rfl) ?_
    refine t_get (C := RX13) (T := TX13) (N := 37) X hT m0 g0 rfl rfl 15 (by decide) qw_514 inlX13 rfl dX13_known_17 (fun v14118 hv14118 ov14118 => ?_)
    obtain ⟨z14119, rfl⟩ := ov14118
    refine t_cVi (n := 1) (C := RX12) (T := TX12) (N := 31) (As := [.long z14119]) (rest := []) X hT (km17_X12_find l G tag L F hT.2.2.2 x0 z14119 mx0 gx0) mx0 gx0 rfl rfl qw_603 qw_604 qw_605 qw_476 qw_606 ⟨rfl, by decide +kernel, by decide +kernel, by decide +kernel⟩ ⟨Nat.le_of_ble_eq_true rfl, Nat.le_of_ble_eq_true rfl⟩ hl rfl rfl (Nat.le_of_ble_eq_true rfl) dX13_known_20 ⟨Nat.le_of_ble_eq_true rfl, Nat.le_of_ble_eq_true rfl⟩ (fun z14120 F9 H locs hT hz14120 => ?_)
    obtain ⟨fz14120, hz14120⟩ := hz14120
    rw [fz14120] at hT
    refine lv_istore_n (lv' := [(2, .int z14120), (0, .ref p0), (1, .int p1)]) hx hb dX13_known_23 rfl hl (by decide) rfl (fun ls hl => ?_)
    refine lv_iload_n hx hb dX13_known_24 rfl (lv_at hl 0 rfl) ?_
    refine lv_iconst (v := (-1)) hx hb dX13_known_25 (by decide) ?_
    refine lv_icmp_eq (tgt := 42) hx hb dX13_known_26 (by decide) (fun c14121 => ?_) (fun c14121 => ?_)
    · have w14122 := cv_eq (rfl : z14120.toInt = z14120.toInt) (by decide : ((-1) : Int32).toInt = (-1)) c14121
      refine lv_aload_n hx hb dX13_known_42 rfl (lv_at hl 1 rfl) ?_
      refine lv_iconst (v := 2) hx hb dX13_known_43 (by decide) ?_
      refine t_cVv (n := 1) (C := RX13) (T := TX13) (N := 37) (As := [.int 2]) (rest := []) X hT (km10_X13_flaw l G tag L F hT.2.2.2 p0 2 x0 x1 x2 x3 x4 x5 m0 g0 (by decide) mx0 gx0 pf0 mx1 gx1 pf1 mx2 gx2 pf2 (by omega) pf3 (by omega) pf4 (by omega) pf5 hkf) m0 g0 rfl rfl qw_548 qw_549 qw_550 qw_5 qw_551 ⟨rfl, by decide +kernel, by decide +kernel, by decide +kernel⟩ ⟨Nat.le_of_ble_eq_true rfl, Nat.le_of_ble_eq_true rfl⟩ hl rfl rfl (Nat.le_of_ble_eq_true rfl) dX13_known_44 ⟨Nat.le_of_ble_eq_true rfl, Nat.le_of_ble_eq_true rfl⟩ (fun F H locs hT hz14123 => ?_)
      obtain ⟨yz14123, ⟨soz14123, spz14123, faz14123, qsoz14123, qspz14123, qfaz14123, rsoz14123, rspz14123, rfaz14123, stz14123, ptz14123, hkf, pxz14123_0⟩⟩ := hz14123
      have pf0 := (yz14123.1 _ 4 (Or.inr (by decide)) (Or.inr (by decide)) (Or.inr (by decide))).trans pf0
      have pf1 := (yz14123.1 _ 28 (Or.inr (by decide)) (Or.inr (by decide)) (Or.inr (by decide))).trans pf1
      have pf2 := (yz14123.1 _ 29 (Or.inr (by decide)) (Or.inr (by decide)) (Or.inr (by decide))).trans pf2
      have pf4 := (yz14123.1 _ 8 (Or.inr (by decide)) (Or.inr (by decide)) (Or.inr (by decide))).trans pf4
      have hfr : (∀ b j : Nat, (tag b ≠ 46 ∨ j ≠ 9) → (tag b ≠ 46 ∨ j ≠ 13) → (tag b ≠ 46 ∨ j ≠ 14) → fld F b j = fld Fo b j) ∧ (∀ b j : Nat, elm F b j = elm Fo b j) := ⟨fun b j n46_9 n46_13 n46_14 => (yz14123.1 b j n46_9 n46_13 n46_14).trans (hfr.1 b j n46_9 n46_13 n46_14), fun b j  => (yz14123.2 b j ).trans (hfr.2 b j )⟩
      have hrel := msr_of (fun j => yz14123.2 _ j ) (fun j => yz14123.2 _ j ) hrel
      have hstk := STK.tr hstk stz14123
      have hspt := SPT.tr hspt ptz14123
      refine lv_aload_n hx hb dX13_known_47 rfl (lv_at hl 1 rfl) ?_
      refine t_get (C := RX13) (T := TX13) (N := 37) X hT m0 g0 rfl rfl 9 (by decide) qw_478 inlX13 rfl dX13_known_48 (fun v14124 hv14124 ov14124 => ?_)
      obtain rfl : v14124 = .int soz14123 := hv14124.symm.trans qsoz14123
      refine lv_iconst (v := 5) hx hb dX13_known_51 (by decide) ?_
      refine lv_icmp_ne (tgt := 59) hx hb dX13_known_52 (by decide) (fun c14125 => ?_) (fun c14125 => ?_)
      · have w14126 := cv_ne (rfl : soz14123.toInt = soz14123.toInt) (by decide : (5 : Int32).toInt = 5) c14125
        exfalso
        omega
      · have w14127 := cv_eq (rfl : soz14123.toInt = soz14123.toInt) (by decide : (5 : Int32).toInt = 5) c14125
        refine lv_iconst (v := 0) hx hb dX13_known_55 (by decide) ?_
        refine lv_goto (tgt := 68) hx hb dX13_known_56 (by decide) ?_
        have k14128 : (0 : Int32).toInt = 0 := by decide
        exact t_iret hQ X hT (⟨(by decide), hfr, hrel, ⟨soz14123, spz14123, faz14123, qsoz14123, qspz14123, qfaz14123, (by omega), (by omega), (by omega), hstk, hspt, hkf⟩⟩) (Nat.le_of_ble_eq_true rfl) (Nat.le_of_ble_eq_true rfl) dX13_known_68
    · have w14129 := cv_ne (rfl : z14120.toInt = z14120.toInt) (by decide : ((-1) : Int32).toInt = (-1)) c14121
      refine lv_aload_n hx hb dX13_known_29 rfl (lv_at hl 1 rfl) ?_
      refine t_get (C := RX13) (T := TX13) (N := 37) X hT m0 g0 rfl rfl 4 (by decide) qw_477 inlX13 rfl dX13_known_30 (fun v14130 hv14130 ov14130 => ?_)
      obtain rfl : v14130 = .ref x0 := hv14130.symm.trans pf0
      refine t_getN (C := RX12) (T := TX12) (N := 31) X hT mx0 gx0 rfl rfl 28 (by decide) (List.mem_of_getElem? (i := 32) rfl) inlX12 rfl dX13_known_33 (fun v14131 hv14131 ov14131 => ?_)
      obtain rfl : v14131 = .ref x1 := hv14131.symm.trans pf1
      refine lv_iload_n hx hb dX13_known_36 rfl (lv_at hl 0 rfl) ?_
      refine t_ild X hT mx1 gx1 rfl (by omega) dX13_known_37 (fun z14132 vz14132 rz14132 => ?_)
      have rz14132 : (-2147483648) ≤ z14132.toInt ∧ z14132.toInt ≤ 2147483647 := rz14132
      refine lv_iload_n hx hb dX13_known_38 rfl (lv_at hl 2 rfl) ?_
      refine lv_icmp_eq (tgt := 47) hx hb dX13_known_39 (by decide) (fun c14133 => ?_) (fun c14133 => ?_)
      · have w14134 := cv_eq (rfl : z14132.toInt = z14132.toInt) (rfl : p1.toInt = p1.toInt) c14133
        refine lv_aload_n hx hb dX13_known_47 rfl (lv_at hl 1 rfl) ?_
        refine t_get (C := RX13) (T := TX13) (N := 37) X hT m0 g0 rfl rfl 9 (by decide) qw_478 inlX13 rfl dX13_known_48 (fun v14135 hv14135 ov14135 => ?_)
        obtain rfl : v14135 = .int x3 := hv14135.symm.trans pf3
        refine lv_iconst (v := 5) hx hb dX13_known_51 (by decide) ?_
        refine lv_icmp_ne (tgt := 59) hx hb dX13_known_52 (by decide) (fun c14136 => ?_) (fun c14136 => ?_)
        · have w14137 := cv_ne (rfl : x3.toInt = x3.toInt) (by decide : (5 : Int32).toInt = 5) c14136
          refine lv_aload_n hx hb dX13_known_59 rfl (lv_at hl 1 rfl) ?_
          refine t_get (C := RX13) (T := TX13) (N := 37) X hT m0 g0 rfl rfl 4 (by decide) qw_477 inlX13 rfl dX13_known_60 (fun v14138 hv14138 ov14138 => ?_)
          obtain rfl : v14138 = .ref x0 := hv14138.symm.trans pf0
          refine t_getN (C := RX12) (T := TX12) (N := 31) X hT mx0 gx0 rfl rfl 29 (by decide) (List.mem_of_getElem? (i := 33) rfl) inlX12 rfl dX13_known_63 (fun v14139 hv14139 ov14139 => ?_)
          obtain rfl : v14139 = .ref x2 := hv14139.symm.trans pf2
          refine lv_iload_n hx hb dX13_known_66 rfl (lv_at hl 0 rfl) ?_
          refine t_ild X hT mx2 gx2 rfl (by omega) dX13_known_67 (fun z14140 vz14140 rz14140 => ?_)
          have rz14140 : (-2147483648) ≤ z14140.toInt ∧ z14140.toInt ≤ 2147483647 := rz14140
          have rz14140 := msr_0 hrel vz14132 vz14140 (by omega)
          exact t_iret hQ X hT (⟨(by omega), hfr, hrel, ⟨x3, x4, x5, pf3, pf4, pf5, (by omega), (by omega), (by omega), hstk, hspt, hkf⟩⟩) (Nat.le_of_ble_eq_true rfl) (Nat.le_of_ble_eq_true rfl) dX13_known_68
        · have w14141 := cv_eq (rfl : x3.toInt = x3.toInt) (by decide : (5 : Int32).toInt = 5) c14136
          refine lv_iconst (v := 0) hx hb dX13_known_55 (by decide) ?_
          refine lv_goto (tgt := 68) hx hb dX13_known_56 (by decide) ?_
          have k14142 : (0 : Int32).toInt = 0 := by decide
          exact t_iret hQ X hT (⟨(by decide), hfr, hrel, ⟨x3, x4, x5, pf3, pf4, pf5, (by omega), (by omega), (by omega), hstk, hspt, hkf⟩⟩) (Nat.le_of_ble_eq_true rfl) (Nat.le_of_ble_eq_true rfl) dX13_known_68
      · have w14143 := cv_ne (rfl : z14132.toInt = z14132.toInt) (rfl : p1.toInt = p1.toInt) c14133
        refine lv_aload_n hx hb dX13_known_42 rfl (lv_at hl 1 rfl) ?_
        refine lv_iconst (v := 2) hx hb dX13_known_43 (by decide) ?_
        refine t_cVv (n := 1) (C := RX13) (T := TX13) (N := 37) (As := [.int 2]) (rest := []) X hT (km10_X13_flaw l G tag L F hT.2.2.2 p0 2 x0 x1 x2 x3 x4 x5 m0 g0 (by decide) mx0 gx0 pf0 mx1 gx1 pf1 mx2 gx2 pf2 (by omega) pf3 (by omega) pf4 (by omega) pf5 hkf) m0 g0 rfl rfl qw_548 qw_549 qw_550 qw_5 qw_551 ⟨rfl, by decide +kernel, by decide +kernel, by decide +kernel⟩ ⟨Nat.le_of_ble_eq_true rfl, Nat.le_of_ble_eq_true rfl⟩ hl rfl rfl (Nat.le_of_ble_eq_true rfl) dX13_known_44 ⟨Nat.le_of_ble_eq_true rfl, Nat.le_of_ble_eq_true rfl⟩ (fun F H locs hT hz14144 => ?_)
        obtain ⟨yz14144, ⟨soz14144, spz14144, faz14144, qsoz14144, qspz14144, qfaz14144, rsoz14144, rspz14144, rfaz14144, stz14144, ptz14144, hkf, pxz14144_0⟩⟩ := hz14144
        have pf0 := (yz14144.1 _ 4 (Or.inr (by decide)) (Or.inr (by decide)) (Or.inr (by decide))).trans pf0
        have pf1 := (yz14144.1 _ 28 (Or.inr (by decide)) (Or.inr (by decide)) (Or.inr (by decide))).trans pf1
        have pf2 := (yz14144.1 _ 29 (Or.inr (by decide)) (Or.inr (by decide)) (Or.inr (by decide))).trans pf2
        have pf4 := (yz14144.1 _ 8 (Or.inr (by decide)) (Or.inr (by decide)) (Or.inr (by decide))).trans pf4
        have vz14132 := (yz14144.2 _ _ ).trans vz14132
        have hfr : (∀ b j : Nat, (tag b ≠ 46 ∨ j ≠ 9) → (tag b ≠ 46 ∨ j ≠ 13) → (tag b ≠ 46 ∨ j ≠ 14) → fld F b j = fld Fo b j) ∧ (∀ b j : Nat, elm F b j = elm Fo b j) := ⟨fun b j n46_9 n46_13 n46_14 => (yz14144.1 b j n46_9 n46_13 n46_14).trans (hfr.1 b j n46_9 n46_13 n46_14), fun b j  => (yz14144.2 b j ).trans (hfr.2 b j )⟩
        have hrel := msr_of (fun j => yz14144.2 _ j ) (fun j => yz14144.2 _ j ) hrel
        have hstk := STK.tr hstk stz14144
        have hspt := SPT.tr hspt ptz14144
        refine lv_aload_n hx hb dX13_known_47 rfl (lv_at hl 1 rfl) ?_
        refine t_get (C := RX13) (T := TX13) (N := 37) X hT m0 g0 rfl rfl 9 (by decide) qw_478 inlX13 rfl dX13_known_48 (fun v14145 hv14145 ov14145 => ?_)
        obtain rfl : v14145 = .int soz14144 := hv14145.symm.trans qsoz14144
        refine lv_iconst (v := 5) hx hb dX13_known_51 (by decide) ?_
        refine lv_icmp_ne (tgt := 59) hx hb dX13_known_52 (by decide) (fun c14146 => ?_) (fun c14146 => ?_)
        · have w14147 := cv_ne (rfl : soz14144.toInt = soz14144.toInt) (by decide : (5 : Int32).toInt = 5) c14146
          exfalso
          omega
        · have w14148 := cv_eq (rfl : soz14144.toInt = soz14144.toInt) (by decide : (5 : Int32).toInt = 5) c14146
          refine lv_iconst (v := 0) hx hb dX13_known_55 (by decide) ?_
          refine lv_goto (tgt := 68) hx hb dX13_known_56 (by decide) ?_
          have k14149 : (0 : Int32).toInt = 0 := by decide
          exact t_iret hQ X hT (⟨(by decide), hfr, hrel, ⟨soz14144, spz14144, faz14144, qsoz14144, qspz14144, qfaz14144, (by omega), (by omega), (by omega), hstk, hspt, hkf⟩⟩) (Nat.le_of_ble_eq_true rfl) (Nat.le_of_ble_eq_true rfl) dX13_known_68
  · have w14150 := cv_eq (rfl : z14114.toInt = z14114.toInt) (by decide : (0 : Int32).toInt = 0) c14115
    refine lv_aload_n hx hb dX13_known_7 rfl (lv_at hl 0 rfl) ?_
    refine lv_iconst (v := 1) hx hb dX13_known_8 (by decide) ?_
    refine t_cVv (n := 1) (C := RX13) (T := TX13) (N := 37) (As := [.int 1]) (rest := []) X hT (km10_X13_flaw l G tag L F hT.2.2.2 p0 1 x0 x1 x2 x3 x4 x5 m0 g0 (by decide) mx0 gx0 pf0 mx1 gx1 pf1 mx2 gx2 pf2 (by omega) pf3 (by omega) pf4 (by omega) pf5 hkf) m0 g0 rfl rfl qw_548 qw_549 qw_550 qw_5 qw_551 ⟨rfl, by decide +kernel, by decide +kernel, by decide +kernel⟩ ⟨Nat.le_of_ble_eq_true rfl, Nat.le_of_ble_eq_true rfl⟩ hl rfl rfl (Nat.le_of_ble_eq_true rfl) dX13_known_9 ⟨Nat.le_of_ble_eq_true rfl, Nat.le_of_ble_eq_true rfl⟩ (fun F H locs hT hz14151 => ?_)
    obtain ⟨yz14151, ⟨soz14151, spz14151, faz14151, qsoz14151, qspz14151, qfaz14151, rsoz14151, rspz14151, rfaz14151, stz14151, ptz14151, hkf, pxz14151_0⟩⟩ := hz14151
    have pf0 := (yz14151.1 _ 4 (Or.inr (by decide)) (Or.inr (by decide)) (Or.inr (by decide))).trans pf0
    have pf1 := (yz14151.1 _ 28 (Or.inr (by decide)) (Or.inr (by decide)) (Or.inr (by decide))).trans pf1
    have pf2 := (yz14151.1 _ 29 (Or.inr (by decide)) (Or.inr (by decide)) (Or.inr (by decide))).trans pf2
    have pf4 := (yz14151.1 _ 8 (Or.inr (by decide)) (Or.inr (by decide)) (Or.inr (by decide))).trans pf4
    have hfr : (∀ b j : Nat, (tag b ≠ 46 ∨ j ≠ 9) → (tag b ≠ 46 ∨ j ≠ 13) → (tag b ≠ 46 ∨ j ≠ 14) → fld F b j = fld Fo b j) ∧ (∀ b j : Nat, elm F b j = elm Fo b j) := ⟨fun b j n46_9 n46_13 n46_14 => (yz14151.1 b j n46_9 n46_13 n46_14).trans (hfr.1 b j n46_9 n46_13 n46_14), fun b j  => (yz14151.2 b j ).trans (hfr.2 b j )⟩
    have hrel := msr_of (fun j => yz14151.2 _ j ) (fun j => yz14151.2 _ j ) hrel
    have hstk := STK.tr hstk stz14151
    have hspt := SPT.tr hspt ptz14151
    refine lv_aload_n hx hb dX13_known_12 rfl (lv_at hl 0 rfl) ?_
    refine t_get (C := RX13) (T := TX13) (N := 37) X hT m0 g0 rfl rfl 4 (by decide) qw_477 inlX13 rfl dX13_known_13 (fun v14152 hv14152 ov14152 => ?_)
    obtain rfl : v14152 = .ref x0 := hv14152.symm.trans pf0
    refine lv_aload_n hx hb dX13_known_16 rfl (lv_at hl 0 rfl) ?_
    refine t_get (C := RX13) (T := TX13) (N := 37) X hT m0 g0 rfl rfl 15 (by decide) qw_514 inlX13 rfl dX13_known_17 (fun v14153 hv14153 ov14153 => ?_)
    obtain ⟨z14154, rfl⟩ := ov14153
    refine t_cVi (n := 1) (C := RX12) (T := TX12) (N := 31) (As := [.long z14154]) (rest := []) X hT (km17_X12_find l G tag L F hT.2.2.2 x0 z14154 mx0 gx0) mx0 gx0 rfl rfl qw_603 qw_604 qw_605 qw_476 qw_606 ⟨rfl, by decide +kernel, by decide +kernel, by decide +kernel⟩ ⟨Nat.le_of_ble_eq_true rfl, Nat.le_of_ble_eq_true rfl⟩ hl rfl rfl (Nat.le_of_ble_eq_true rfl) dX13_known_20 ⟨Nat.le_of_ble_eq_true rfl, Nat.le_of_ble_eq_true rfl⟩ (fun z14155 F9 H locs hT hz14155 => ?_)
    obtain ⟨fz14155, hz14155⟩ := hz14155
    rw [fz14155] at hT
    refine lv_istore_n (lv' := [(2, .int z14155), (0, .ref p0), (1, .int p1)]) hx hb dX13_known_23 rfl hl (by decide) rfl (fun ls hl => ?_)
    refine lv_iload_n hx hb dX13_known_24 rfl (lv_at hl 0 rfl) ?_
    refine lv_iconst (v := (-1)) hx hb dX13_known_25 (by decide) ?_
    refine lv_icmp_eq (tgt := 42) hx hb dX13_known_26 (by decide) (fun c14156 => ?_) (fun c14156 => ?_)
    · have w14157 := cv_eq (rfl : z14155.toInt = z14155.toInt) (by decide : ((-1) : Int32).toInt = (-1)) c14156
      refine lv_aload_n hx hb dX13_known_42 rfl (lv_at hl 1 rfl) ?_
      refine lv_iconst (v := 2) hx hb dX13_known_43 (by decide) ?_
      refine t_cVv (n := 1) (C := RX13) (T := TX13) (N := 37) (As := [.int 2]) (rest := []) X hT (km10_X13_flaw l G tag L F hT.2.2.2 p0 2 x0 x1 x2 soz14151 spz14151 faz14151 m0 g0 (by decide) mx0 gx0 pf0 mx1 gx1 pf1 mx2 gx2 pf2 (by omega) qsoz14151 (by omega) qspz14151 (by omega) qfaz14151 hkf) m0 g0 rfl rfl qw_548 qw_549 qw_550 qw_5 qw_551 ⟨rfl, by decide +kernel, by decide +kernel, by decide +kernel⟩ ⟨Nat.le_of_ble_eq_true rfl, Nat.le_of_ble_eq_true rfl⟩ hl rfl rfl (Nat.le_of_ble_eq_true rfl) dX13_known_44 ⟨Nat.le_of_ble_eq_true rfl, Nat.le_of_ble_eq_true rfl⟩ (fun F H locs hT hz14158 => ?_)
      obtain ⟨yz14158, ⟨soz14158, spz14158, faz14158, qsoz14158, qspz14158, qfaz14158, rsoz14158, rspz14158, rfaz14158, stz14158, ptz14158, hkf, pxz14158_0⟩⟩ := hz14158
      have pf0 := (yz14158.1 _ 4 (Or.inr (by decide)) (Or.inr (by decide)) (Or.inr (by decide))).trans pf0
      have pf1 := (yz14158.1 _ 28 (Or.inr (by decide)) (Or.inr (by decide)) (Or.inr (by decide))).trans pf1
      have pf2 := (yz14158.1 _ 29 (Or.inr (by decide)) (Or.inr (by decide)) (Or.inr (by decide))).trans pf2
      have qspz14151 := (yz14158.1 _ 8 (Or.inr (by decide)) (Or.inr (by decide)) (Or.inr (by decide))).trans qspz14151
      have hfr : (∀ b j : Nat, (tag b ≠ 46 ∨ j ≠ 9) → (tag b ≠ 46 ∨ j ≠ 13) → (tag b ≠ 46 ∨ j ≠ 14) → fld F b j = fld Fo b j) ∧ (∀ b j : Nat, elm F b j = elm Fo b j) := ⟨fun b j n46_9 n46_13 n46_14 => (yz14158.1 b j n46_9 n46_13 n46_14).trans (hfr.1 b j n46_9 n46_13 n46_14), fun b j  => (yz14158.2 b j ).trans (hfr.2 b j )⟩
      have hrel := msr_of (fun j => yz14158.2 _ j ) (fun j => yz14158.2 _ j ) hrel
      have hstk := STK.tr hstk stz14158
      have hspt := SPT.tr hspt ptz14158
      have k5z14158 : soz14158.toInt = 5 := stz14158 (by omega)
      refine lv_aload_n hx hb dX13_known_47 rfl (lv_at hl 1 rfl) ?_
      refine t_get (C := RX13) (T := TX13) (N := 37) X hT m0 g0 rfl rfl 9 (by decide) qw_478 inlX13 rfl dX13_known_48 (fun v14159 hv14159 ov14159 => ?_)
      obtain rfl : v14159 = .int soz14158 := hv14159.symm.trans qsoz14158
      refine lv_iconst (v := 5) hx hb dX13_known_51 (by decide) ?_
      refine lv_icmp_ne (tgt := 59) hx hb dX13_known_52 (by decide) (fun c14160 => ?_) (fun c14160 => ?_)
      · have w14161 := cv_ne (rfl : soz14158.toInt = soz14158.toInt) (by decide : (5 : Int32).toInt = 5) c14160
        exfalso
        omega
      · have w14162 := cv_eq (rfl : soz14158.toInt = soz14158.toInt) (by decide : (5 : Int32).toInt = 5) c14160
        refine lv_iconst (v := 0) hx hb dX13_known_55 (by decide) ?_
        refine lv_goto (tgt := 68) hx hb dX13_known_56 (by decide) ?_
        have k14163 : (0 : Int32).toInt = 0 := by decide
        exact t_iret hQ X hT (⟨(by decide), hfr, hrel, ⟨soz14158, spz14158, faz14158, qsoz14158, qspz14158, qfaz14158, (by omega), (by omega), (by omega), hstk, hspt, hkf⟩⟩) (Nat.le_of_ble_eq_true rfl) (Nat.le_of_ble_eq_true rfl) dX13_known_68
    · have w14164 := cv_ne (rfl : z14155.toInt = z14155.toInt) (by decide : ((-1) : Int32).toInt = (-1)) c14156
      refine lv_aload_n hx hb dX13_known_29 rfl (lv_at hl 1 rfl) ?_
      refine t_get (C := RX13) (T := TX13) (N := 37) X hT m0 g0 rfl rfl 4 (by decide) qw_477 inlX13 rfl dX13_known_30 (fun v14165 hv14165 ov14165 => ?_)
      obtain rfl : v14165 = .ref x0 := hv14165.symm.trans pf0
      refine t_getN (C := RX12) (T := TX12) (N := 31) X hT mx0 gx0 rfl rfl 28 (by decide) (List.mem_of_getElem? (i := 32) rfl) inlX12 rfl dX13_known_33 (fun v14166 hv14166 ov14166 => ?_)
      obtain rfl : v14166 = .ref x1 := hv14166.symm.trans pf1
      refine lv_iload_n hx hb dX13_known_36 rfl (lv_at hl 0 rfl) ?_
      refine t_ild X hT mx1 gx1 rfl (by omega) dX13_known_37 (fun z14167 vz14167 rz14167 => ?_)
      have rz14167 : (-2147483648) ≤ z14167.toInt ∧ z14167.toInt ≤ 2147483647 := rz14167
      refine lv_iload_n hx hb dX13_known_38 rfl (lv_at hl 2 rfl) ?_
      refine lv_icmp_eq (tgt := 47) hx hb dX13_known_39 (by decide) (fun c14168 => ?_) (fun c14168 => ?_)
      · have w14169 := cv_eq (rfl : z14167.toInt = z14167.toInt) (rfl : p1.toInt = p1.toInt) c14168
        refine lv_aload_n hx hb dX13_known_47 rfl (lv_at hl 1 rfl) ?_
        refine t_get (C := RX13) (T := TX13) (N := 37) X hT m0 g0 rfl rfl 9 (by decide) qw_478 inlX13 rfl dX13_known_48 (fun v14170 hv14170 ov14170 => ?_)
        obtain rfl : v14170 = .int soz14151 := hv14170.symm.trans qsoz14151
        refine lv_iconst (v := 5) hx hb dX13_known_51 (by decide) ?_
        refine lv_icmp_ne (tgt := 59) hx hb dX13_known_52 (by decide) (fun c14171 => ?_) (fun c14171 => ?_)
        · have w14172 := cv_ne (rfl : soz14151.toInt = soz14151.toInt) (by decide : (5 : Int32).toInt = 5) c14171
          exfalso
          omega
        · have w14173 := cv_eq (rfl : soz14151.toInt = soz14151.toInt) (by decide : (5 : Int32).toInt = 5) c14171
          refine lv_iconst (v := 0) hx hb dX13_known_55 (by decide) ?_
          refine lv_goto (tgt := 68) hx hb dX13_known_56 (by decide) ?_
          have k14174 : (0 : Int32).toInt = 0 := by decide
          exact t_iret hQ X hT (⟨(by decide), hfr, hrel, ⟨soz14151, spz14151, faz14151, qsoz14151, qspz14151, qfaz14151, (by omega), (by omega), (by omega), hstk, hspt, hkf⟩⟩) (Nat.le_of_ble_eq_true rfl) (Nat.le_of_ble_eq_true rfl) dX13_known_68
      · have w14175 := cv_ne (rfl : z14167.toInt = z14167.toInt) (rfl : p1.toInt = p1.toInt) c14168
        refine lv_aload_n hx hb dX13_known_42 rfl (lv_at hl 1 rfl) ?_
        refine lv_iconst (v := 2) hx hb dX13_known_43 (by decide) ?_
        refine t_cVv (n := 1) (C := RX13) (T := TX13) (N := 37) (As := [.int 2]) (rest := []) X hT (km10_X13_flaw l G tag L F hT.2.2.2 p0 2 x0 x1 x2 soz14151 spz14151 faz14151 m0 g0 (by decide) mx0 gx0 pf0 mx1 gx1 pf1 mx2 gx2 pf2 (by omega) qsoz14151 (by omega) qspz14151 (by omega) qfaz14151 hkf) m0 g0 rfl rfl qw_548 qw_549 qw_550 qw_5 qw_551 ⟨rfl, by decide +kernel, by decide +kernel, by decide +kernel⟩ ⟨Nat.le_of_ble_eq_true rfl, Nat.le_of_ble_eq_true rfl⟩ hl rfl rfl (Nat.le_of_ble_eq_true rfl) dX13_known_44 ⟨Nat.le_of_ble_eq_true rfl, Nat.le_of_ble_eq_true rfl⟩ (fun F H locs hT hz14176 => ?_)
        obtain ⟨yz14176, ⟨soz14176, spz14176, faz14176, qsoz14176, qspz14176, qfaz14176, rsoz14176, rspz14176, rfaz14176, stz14176, ptz14176, hkf, pxz14176_0⟩⟩ := hz14176
        have pf0 := (yz14176.1 _ 4 (Or.inr (by decide)) (Or.inr (by decide)) (Or.inr (by decide))).trans pf0
        have pf1 := (yz14176.1 _ 28 (Or.inr (by decide)) (Or.inr (by decide)) (Or.inr (by decide))).trans pf1
        have pf2 := (yz14176.1 _ 29 (Or.inr (by decide)) (Or.inr (by decide)) (Or.inr (by decide))).trans pf2
        have qspz14151 := (yz14176.1 _ 8 (Or.inr (by decide)) (Or.inr (by decide)) (Or.inr (by decide))).trans qspz14151
        have vz14167 := (yz14176.2 _ _ ).trans vz14167
        have hfr : (∀ b j : Nat, (tag b ≠ 46 ∨ j ≠ 9) → (tag b ≠ 46 ∨ j ≠ 13) → (tag b ≠ 46 ∨ j ≠ 14) → fld F b j = fld Fo b j) ∧ (∀ b j : Nat, elm F b j = elm Fo b j) := ⟨fun b j n46_9 n46_13 n46_14 => (yz14176.1 b j n46_9 n46_13 n46_14).trans (hfr.1 b j n46_9 n46_13 n46_14), fun b j  => (yz14176.2 b j ).trans (hfr.2 b j )⟩
        have hrel := msr_of (fun j => yz14176.2 _ j ) (fun j => yz14176.2 _ j ) hrel
        have hstk := STK.tr hstk stz14176
        have hspt := SPT.tr hspt ptz14176
        have k5z14176 : soz14176.toInt = 5 := stz14176 (by omega)
        refine lv_aload_n hx hb dX13_known_47 rfl (lv_at hl 1 rfl) ?_
        refine t_get (C := RX13) (T := TX13) (N := 37) X hT m0 g0 rfl rfl 9 (by decide) qw_478 inlX13 rfl dX13_known_48 (fun v14177 hv14177 ov14177 => ?_)
        obtain rfl : v14177 = .int soz14176 := hv14177.symm.trans qsoz14176
        refine lv_iconst (v := 5) hx hb dX13_known_51 (by decide) ?_
        refine lv_icmp_ne (tgt := 59) hx hb dX13_known_52 (by decide) (fun c14178 => ?_) (fun c14178 => ?_)
        · have w14179 := cv_ne (rfl : soz14176.toInt = soz14176.toInt) (by decide : (5 : Int32).toInt = 5) c14178
          exfalso
          omega
        · have w14180 := cv_eq (rfl : soz14176.toInt = soz14176.toInt) (by decide : (5 : Int32).toInt = 5) c14178
          refine lv_iconst (v := 0) hx hb dX13_known_55 (by decide) ?_
          refine lv_goto (tgt := 68) hx hb dX13_known_56 (by decide) ?_
          have k14181 : (0 : Int32).toInt = 0 := by decide
          exact t_iret hQ X hT (⟨(by decide), hfr, hrel, ⟨soz14176, spz14176, faz14176, qsoz14176, qspz14176, qfaz14176, (by omega), (by omega), (by omega), hstk, hspt, hkf⟩⟩) (Nat.le_of_ble_eq_true rfl) (Nat.le_of_ble_eq_true rfl) dX13_known_68
set_option maxHeartbeats 4000000 in
set_option maxRecDepth 100000 in
theorem km36_X13_readKnown (l : Launch) (G : KG) (tag : Nat → Nat) (L : List Nat) (Fo : Nat → va_E) (ho : okT G ttC tag L Fo) (p0 : Nat) (p1 : Int32) (x0 : Nat) (x1 : Nat) (x2 : Nat) (x3 : Int32) (x4 : Int32) (x5 : Int32) (m0 : p0 ∈ L) (g0 : tag p0 = 46) (h1 : 0 ≤ p1.toInt ∧ p1.toInt ≤ 0) (mx0 : x0 ∈ L) (gx0 : tag x0 = 44) (pf0 : fld Fo p0 4 = .ref x0) (mx1 : x1 ∈ L) (gx1 : tag x1 = 35) (pf1 : fld Fo x0 28 = .ref x1) (mx2 : x2 ∈ L) (gx2 : tag x2 = 36) (pf2 : fld Fo x0 29 = .ref x2) (hx3 : 0 ≤ x3.toInt ∧ x3.toInt ≤ 5) (pf3 : fld Fo p0 9 = .int x3) (hx4 : 0 ≤ x4.toInt ∧ x4.toInt ≤ 1000) (pf4 : fld Fo p0 8 = .int x4) (hx5 : 0 ≤ x5.toInt ∧ x5.toInt ≤ 7) (pf5 : fld Fo p0 13 = .int x5) (hrel : MSR Fo x1 x2) (hkf : KF x3 x5) : TMi l yX13_readKnown cX13_readKnown 3 (some .int) { frames := 8, cells := 0, slots := 0, locals := 171 } G ttC tag L Fo [.ref p0, .int p1] (fun r F1 => (0 ≤ r.toInt ∧ r.toInt ≤ 3) ∧ ((∀ b j : Nat, (tag b ≠ 46 ∨ j ≠ 8) → (tag b ≠ 46 ∨ j ≠ 9) → (tag b ≠ 46 ∨ j ≠ 10) → (tag b ≠ 46 ∨ j ≠ 11) → (tag b ≠ 46 ∨ j ≠ 12) → (tag b ≠ 46 ∨ j ≠ 13) → (tag b ≠ 46 ∨ j ≠ 14) → (tag b ≠ 46 ∨ j ≠ 15) → fld F1 b j = fld Fo b j) ∧ (∀ b j : Nat, elm F1 b j = elm Fo b j)) ∧ (MSR F1 x1 x2) ∧ (∃ so sp fa : Int32, fld F1 p0 9 = .int so ∧ fld F1 p0 8 = .int sp ∧ fld F1 p0 13 = .int fa ∧ (0 ≤ so.toInt ∧ so.toInt ≤ 5) ∧ (0 ≤ sp.toInt ∧ sp.toInt ≤ 1000) ∧ (0 ≤ fa.toInt ∧ fa.toInt ≤ 7) ∧ STK x3 so ∧ SPT x3 x4 so sp ∧ KF so fa)) := by
  refine t_bodyi (y := yX13_readKnown) (cd := cX13_readKnown) (mL := 3) (rt := (some .int)) (rm := { frames := 8, cells := 0, slots := 0, locals := 171 }) (av := [.ref p0, .int p1]) (by decide) (Nat.le_of_ble_eq_true rfl) ho ?_
  intro p e s m args below meth c ls A Q hQ X hT hl
  have hx := X.1.1
  have hb := X.1.2.1
  have hl : lv_has ls 3 [(0, .ref p0), (1, .int p1)] := hl
  obtain ⟨F, hFo⟩ : ∃ F : Nat → va_E, F = Fo := ⟨_, rfl⟩
  rw [← hFo] at hT pf0 pf1 pf2 pf3 pf4 pf5 hrel
  have hfr : (∀ b j : Nat, (tag b ≠ 46 ∨ j ≠ 8) → (tag b ≠ 46 ∨ j ≠ 9) → (tag b ≠ 46 ∨ j ≠ 10) → (tag b ≠ 46 ∨ j ≠ 11) → (tag b ≠ 46 ∨ j ≠ 12) → (tag b ≠ 46 ∨ j ≠ 13) → (tag b ≠ 46 ∨ j ≠ 14) → (tag b ≠ 46 ∨ j ≠ 15) → fld F b j = fld Fo b j) ∧ (∀ b j : Nat, elm F b j = elm Fo b j) := by
    rw [hFo]
    exact ⟨by intros; rfl, by intros; rfl⟩
  have hstk : STK x3 x3 := STK.rf
  have hspt : SPT x3 x4 x3 x4 := SPT.rf
  refine lv_aload_n hx hb dX13_readKnown_0 rfl (lv_at hl 0 rfl) ?_
  refine lv_iload_n hx hb dX13_readKnown_1 rfl (lv_at hl 1 rfl) ?_
  refine t_cVi (n := 1) (C := RX13) (T := TX13) (N := 37) (As := [.int p1]) (rest := []) X hT (km35_X13_known l G tag L F hT.2.2.2 p0 p1 x0 x1 x2 x3 x4 x5 m0 g0 (by omega) mx0 gx0 pf0 mx1 gx1 pf1 mx2 gx2 pf2 (by omega) pf3 (by omega) pf4 (by omega) pf5 hrel hkf) m0 g0 rfl rfl qw_636 qw_637 qw_638 qw_5 qw_639 ⟨rfl, by decide +kernel, by decide +kernel, by decide +kernel⟩ ⟨Nat.le_of_ble_eq_true rfl, Nat.le_of_ble_eq_true rfl⟩ hl rfl rfl (Nat.le_of_ble_eq_true rfl) dX13_readKnown_2 ⟨Nat.le_of_ble_eq_true rfl, Nat.le_of_ble_eq_true rfl⟩ (fun z14204 F H locs hT hz14204 => ?_)
  obtain ⟨hz14204, yz14204, hrel, ⟨soz14204, spz14204, faz14204, qsoz14204, qspz14204, qfaz14204, rsoz14204, rspz14204, rfaz14204, stz14204, ptz14204, hkf⟩⟩ := hz14204
  have pf0 := (yz14204.1 _ 4 (Or.inr (by decide)) (Or.inr (by decide)) (Or.inr (by decide))).trans pf0
  have pf1 := (yz14204.1 _ 28 (Or.inr (by decide)) (Or.inr (by decide)) (Or.inr (by decide))).trans pf1
  have pf2 := (yz14204.1 _ 29 (Or.inr (by decide)) (Or.inr (by decide)) (Or.inr (by decide))).trans pf2
  have pf4 := (yz14204.1 _ 8 (Or.inr (by decide)) (Or.inr (by decide)) (Or.inr (by decide))).trans pf4
  have hfr : (∀ b j : Nat, (tag b ≠ 46 ∨ j ≠ 8) → (tag b ≠ 46 ∨ j ≠ 9) → (tag b ≠ 46 ∨ j ≠ 10) → (tag b ≠ 46 ∨ j ≠ 11) → (tag b ≠ 46 ∨ j ≠ 12) → (tag b ≠ 46 ∨ j ≠ 13) → (tag b ≠ 46 ∨ j ≠ 14) → (tag b ≠ 46 ∨ j ≠ 15) → fld F b j = fld Fo b j) ∧ (∀ b j : Nat, elm F b j = elm Fo b j) := ⟨fun b j n46_8 n46_9 n46_10 n46_11 n46_12 n46_13 n46_14 n46_15 => (yz14204.1 b j n46_9 n46_13 n46_14).trans (hfr.1 b j n46_8 n46_9 n46_10 n46_11 n46_12 n46_13 n46_14 n46_15), fun b j  => (yz14204.2 b j ).trans (hfr.2 b j )⟩
  have hstk := STK.tr hstk stz14204
  have hspt := SPT.tr hspt ptz14204
  refine lv_istore_n (lv' := [(2, .int z14204), (0, .ref p0), (1, .int p1)]) hx hb dX13_readKnown_5 rfl hl (by decide) rfl (fun ls hl => ?_)
  refine lv_aload_n hx hb dX13_readKnown_6 rfl (lv_at hl 1 rfl) ?_
  refine t_cVv (n := 0) (C := RX13) (T := TX13) (N := 37) (As := []) (rest := []) X hT (km14_X13_goesOn l G tag L F hT.2.2.2 p0 x0 x1 x2 soz14204 spz14204 faz14204 m0 g0 mx0 gx0 pf0 mx1 gx1 pf1 mx2 gx2 pf2 (by omega) qsoz14204 (by omega) qspz14204 (by omega) qfaz14204 hkf) m0 g0 rfl rfl qw_508 qw_509 qw_510 qw_5 qw_511 ⟨rfl, by decide +kernel, by decide +kernel, by decide +kernel⟩ ⟨Nat.le_of_ble_eq_true rfl, Nat.le_of_ble_eq_true rfl⟩ hl rfl rfl (Nat.le_of_ble_eq_true rfl) dX13_readKnown_7 ⟨Nat.le_of_ble_eq_true rfl, Nat.le_of_ble_eq_true rfl⟩ (fun F H locs hT hz14205 => ?_)
  obtain ⟨yz14205, ⟨soz14205, spz14205, faz14205, qsoz14205, qspz14205, qfaz14205, rsoz14205, rspz14205, rfaz14205, stz14205, ptz14205, hkf⟩⟩ := hz14205
  have pf0 := (yz14205.1 _ 4 (Or.inr (by decide)) (Or.inr (by decide)) (Or.inr (by decide)) (Or.inr (by decide)) (Or.inr (by decide)) (Or.inr (by decide))).trans pf0
  have pf1 := (yz14205.1 _ 28 (Or.inr (by decide)) (Or.inr (by decide)) (Or.inr (by decide)) (Or.inr (by decide)) (Or.inr (by decide)) (Or.inr (by decide))).trans pf1
  have pf2 := (yz14205.1 _ 29 (Or.inr (by decide)) (Or.inr (by decide)) (Or.inr (by decide)) (Or.inr (by decide)) (Or.inr (by decide)) (Or.inr (by decide))).trans pf2
  have qfaz14204 := (yz14205.1 _ 13 (Or.inr (by decide)) (Or.inr (by decide)) (Or.inr (by decide)) (Or.inr (by decide)) (Or.inr (by decide)) (Or.inr (by decide))).trans qfaz14204
  have hfr : (∀ b j : Nat, (tag b ≠ 46 ∨ j ≠ 8) → (tag b ≠ 46 ∨ j ≠ 9) → (tag b ≠ 46 ∨ j ≠ 10) → (tag b ≠ 46 ∨ j ≠ 11) → (tag b ≠ 46 ∨ j ≠ 12) → (tag b ≠ 46 ∨ j ≠ 13) → (tag b ≠ 46 ∨ j ≠ 14) → (tag b ≠ 46 ∨ j ≠ 15) → fld F b j = fld Fo b j) ∧ (∀ b j : Nat, elm F b j = elm Fo b j) := ⟨fun b j n46_8 n46_9 n46_10 n46_11 n46_12 n46_13 n46_14 n46_15 => (yz14205.1 b j n46_8 n46_9 n46_10 n46_11 n46_12 n46_15).trans (hfr.1 b j n46_8 n46_9 n46_10 n46_11 n46_12 n46_13 n46_14 n46_15), fun b j  => (yz14205.2 b j ).trans (hfr.2 b j )⟩
  have hrel := msr_of (fun j => yz14205.2 _ j ) (fun j => yz14205.2 _ j ) hrel
  have hstk := STK.tr hstk stz14205
  have hspt := SPT.tr hspt ptz14205
  refine lv_iload_n hx hb dX13_readKnown_10 rfl (lv_at hl 0 rfl) ?_
  exact t_iret hQ X hT (⟨(by omega), hfr, hrel, ⟨soz14205, spz14205, faz14205, qsoz14205, qspz14205, qfaz14205, (by omega), (by omega), (by omega), hstk, hspt, hkf⟩⟩) (Nat.le_of_ble_eq_true rfl) (Nat.le_of_ble_eq_true rfl) dX13_readKnown_11
set_option maxHeartbeats 4000000 in
set_option maxRecDepth 100000 in
theorem km37_X13_readSide (l : Launch) (G : KG) (tag : Nat → Nat) (L : List Nat) (Fo : Nat → va_E) (ho : okT G ttC tag L Fo) (p0 : Nat) (x0 : Nat) (x1 : Nat) (x2 : Nat) (x3 : Int32) (x4 : Int32) (x5 : Int32) (m0 : p0 ∈ L) (g0 : tag p0 = 46) (mx0 : x0 ∈ L) (gx0 : tag x0 = 44) (pf0 : fld Fo p0 4 = .ref x0) (mx1 : x1 ∈ L) (gx1 : tag x1 = 35) (pf1 : fld Fo x0 28 = .ref x1) (mx2 : x2 ∈ L) (gx2 : tag x2 = 36) (pf2 : fld Fo x0 29 = .ref x2) (hx3 : 0 ≤ x3.toInt ∧ x3.toInt ≤ 5) (pf3 : fld Fo p0 9 = .int x3) (hx4 : 0 ≤ x4.toInt ∧ x4.toInt ≤ 1000) (pf4 : fld Fo p0 8 = .int x4) (hx5 : 0 ≤ x5.toInt ∧ x5.toInt ≤ 7) (pf5 : fld Fo p0 13 = .int x5) (hkf : KF x3 x5) : TMi l yX13_readSide cX13_readSide 2 (some .int) { frames := 6, cells := 0, slots := 0, locals := 129 } G ttC tag L Fo [.ref p0] (fun r F1 => ((-1) ≤ r.toInt ∧ r.toInt ≤ 3) ∧ ((∀ b j : Nat, (tag b ≠ 46 ∨ j ≠ 8) → (tag b ≠ 46 ∨ j ≠ 9) → (tag b ≠ 46 ∨ j ≠ 10) → (tag b ≠ 46 ∨ j ≠ 11) → (tag b ≠ 46 ∨ j ≠ 12) → (tag b ≠ 46 ∨ j ≠ 13) → (tag b ≠ 46 ∨ j ≠ 14) → (tag b ≠ 46 ∨ j ≠ 15) → fld F1 b j = fld Fo b j) ∧ (∀ b j : Nat, elm F1 b j = elm Fo b j)) ∧ (∃ so sp fa : Int32, fld F1 p0 9 = .int so ∧ fld F1 p0 8 = .int sp ∧ fld F1 p0 13 = .int fa ∧ (0 ≤ so.toInt ∧ so.toInt ≤ 5) ∧ (0 ≤ sp.toInt ∧ sp.toInt ≤ 1000) ∧ (0 ≤ fa.toInt ∧ fa.toInt ≤ 7) ∧ STK x3 so ∧ SPT x3 x4 so sp ∧ KF so fa)) := by
  refine t_bodyi (y := yX13_readSide) (cd := cX13_readSide) (mL := 2) (rt := (some .int)) (rm := { frames := 6, cells := 0, slots := 0, locals := 129 }) (av := [.ref p0]) (by decide) (Nat.le_of_ble_eq_true rfl) ho ?_
  intro p e s m args below meth c ls A Q hQ X hT hl
  have hx := X.1.1
  have hb := X.1.2.1
  have hl : lv_has ls 2 [(0, .ref p0)] := hl
  obtain ⟨F, hFo⟩ : ∃ F : Nat → va_E, F = Fo := ⟨_, rfl⟩
  rw [← hFo] at hT pf0 pf1 pf2 pf3 pf4 pf5
  have hfr : (∀ b j : Nat, (tag b ≠ 46 ∨ j ≠ 8) → (tag b ≠ 46 ∨ j ≠ 9) → (tag b ≠ 46 ∨ j ≠ 10) → (tag b ≠ 46 ∨ j ≠ 11) → (tag b ≠ 46 ∨ j ≠ 12) → (tag b ≠ 46 ∨ j ≠ 13) → (tag b ≠ 46 ∨ j ≠ 14) → (tag b ≠ 46 ∨ j ≠ 15) → fld F b j = fld Fo b j) ∧ (∀ b j : Nat, elm F b j = elm Fo b j) := by
    rw [hFo]
    exact ⟨by intros; rfl, by intros; rfl⟩
  have hstk : STK x3 x3 := STK.rf
  have hspt : SPT x3 x4 x3 x4 := SPT.rf
  have K68 : ∀ (z14442 : Int32) (z14443 : Int32) (z14444 : Int32) (z14445 : Int32) (F : Nat → va_E) (H : Heap) (locs : List Loc) (ls : Array Slot), ((-1) ≤ z14442.toInt ∧ z14442.toInt ≤ 3) → (0 ≤ z14443.toInt ∧ z14443.toInt ≤ 5) → (0 ≤ z14444.toInt ∧ z14444.toInt ≤ 1000) → (0 ≤ z14445.toInt ∧ z14445.toInt ≤ 7) → TH G ttC A s tag L F H locs → ((∀ b j : Nat, (tag b ≠ 46 ∨ j ≠ 8) → (tag b ≠ 46 ∨ j ≠ 9) → (tag b ≠ 46 ∨ j ≠ 10) → (tag b ≠ 46 ∨ j ≠ 11) → (tag b ≠ 46 ∨ j ≠ 12) → (tag b ≠ 46 ∨ j ≠ 13) → (tag b ≠ 46 ∨ j ≠ 14) → (tag b ≠ 46 ∨ j ≠ 15) → fld F b j = fld Fo b j) ∧ (∀ b j : Nat, elm F b j = elm Fo b j)) → (fld F p0 4 = .ref x0) → (fld F x0 28 = .ref x1) → (fld F x0 29 = .ref x2) → (fld F p0 9 = .int z14443) → (fld F p0 8 = .int z14444) → (fld F p0 13 = .int z14445) → (STK x3 z14443) → (SPT x3 x4 z14443 z14444) → (KF z14443 z14445) → lv_has ls 2 [(0, .ref p0), (1, .int z14442)] → W p l e { frames := 6, cells := 0, slots := 0, locals := 129 } s m args below meth c H locs 0 0 Q (F0 m 68 ls []) := by
    intro z14442 z14443 z14444 z14445 F H locs ls rz14442 rz14443 rz14444 rz14445 hT hfr pf0 pf1 pf2 qz14443 qz14444 qz14445 hstk hspt hkf hl
    refine lv_aload_n hx hb dX13_readSide_68 rfl (lv_at hl 0 rfl) ?_
    refine t_cVv (n := 0) (C := RX13) (T := TX13) (N := 37) (As := []) (rest := []) X hT (km14_X13_goesOn l G tag L F hT.2.2.2 p0 x0 x1 x2 z14443 z14444 z14445 m0 g0 mx0 gx0 pf0 mx1 gx1 pf1 mx2 gx2 pf2 (by omega) qz14443 (by omega) qz14444 (by omega) qz14445 hkf) m0 g0 rfl rfl qw_508 qw_509 qw_510 qw_5 qw_511 ⟨rfl, by decide +kernel, by decide +kernel, by decide +kernel⟩ ⟨Nat.le_of_ble_eq_true rfl, Nat.le_of_ble_eq_true rfl⟩ hl rfl rfl (Nat.le_of_ble_eq_true rfl) dX13_readSide_69 ⟨Nat.le_of_ble_eq_true rfl, Nat.le_of_ble_eq_true rfl⟩ (fun F H locs hT hz14446 => ?_)
    obtain ⟨yz14446, ⟨soz14446, spz14446, faz14446, qsoz14446, qspz14446, qfaz14446, rsoz14446, rspz14446, rfaz14446, stz14446, ptz14446, hkf⟩⟩ := hz14446
    have qz14445 := (yz14446.1 _ 13 (Or.inr (by decide)) (Or.inr (by decide)) (Or.inr (by decide)) (Or.inr (by decide)) (Or.inr (by decide)) (Or.inr (by decide))).trans qz14445
    have pf0 := (yz14446.1 _ 4 (Or.inr (by decide)) (Or.inr (by decide)) (Or.inr (by decide)) (Or.inr (by decide)) (Or.inr (by decide)) (Or.inr (by decide))).trans pf0
    have pf1 := (yz14446.1 _ 28 (Or.inr (by decide)) (Or.inr (by decide)) (Or.inr (by decide)) (Or.inr (by decide)) (Or.inr (by decide)) (Or.inr (by decide))).trans pf1
    have pf2 := (yz14446.1 _ 29 (Or.inr (by decide)) (Or.inr (by decide)) (Or.inr (by decide)) (Or.inr (by decide)) (Or.inr (by decide)) (Or.inr (by decide))).trans pf2
    have hfr : (∀ b j : Nat, (tag b ≠ 46 ∨ j ≠ 8) → (tag b ≠ 46 ∨ j ≠ 9) → (tag b ≠ 46 ∨ j ≠ 10) → (tag b ≠ 46 ∨ j ≠ 11) → (tag b ≠ 46 ∨ j ≠ 12) → (tag b ≠ 46 ∨ j ≠ 13) → (tag b ≠ 46 ∨ j ≠ 14) → (tag b ≠ 46 ∨ j ≠ 15) → fld F b j = fld Fo b j) ∧ (∀ b j : Nat, elm F b j = elm Fo b j) := ⟨fun b j n46_8 n46_9 n46_10 n46_11 n46_12 n46_13 n46_14 n46_15 => (yz14446.1 b j n46_8 n46_9 n46_10 n46_11 n46_12 n46_15).trans (hfr.1 b j n46_8 n46_9 n46_10 n46_11 n46_12 n46_13 n46_14 n46_15), fun b j  => (yz14446.2 b j ).trans (hfr.2 b j )⟩
    have hstk := STK.tr hstk stz14446
    have hspt := SPT.tr hspt ptz14446
    refine lv_iload_n hx hb dX13_readSide_72 rfl (lv_at hl 1 rfl) ?_
    exact t_iret hQ X hT (⟨(by omega), hfr, ⟨soz14446, spz14446, faz14446, qsoz14446, qspz14446, qfaz14446, (by omega), (by omega), (by omega), hstk, hspt, hkf⟩⟩) (Nat.le_of_ble_eq_true rfl) (Nat.le_of_ble_eq_true rfl) dX13_readSide_73
  have K57 : ∀ (z14447 : Int32) (z14448 : Int32) (z14449 : Int32) (z14450 : Int32) (F : Nat → va_E) (H : Heap) (locs : List Loc) (ls : Array Slot), ((-1) ≤ z14447.toInt ∧ z14447.toInt ≤ 3) → (0 ≤ z14448.toInt ∧ z14448.toInt ≤ 5) → (0 ≤ z14449.toInt ∧ z14449.toInt ≤ 1000) → (0 ≤ z14450.toInt ∧ z14450.toInt ≤ 7) → TH G ttC A s tag L F H locs → ((∀ b j : Nat, (tag b ≠ 46 ∨ j ≠ 8) → (tag b ≠ 46 ∨ j ≠ 9) → (tag b ≠ 46 ∨ j ≠ 10) → (tag b ≠ 46 ∨ j ≠ 11) → (tag b ≠ 46 ∨ j ≠ 12) → (tag b ≠ 46 ∨ j ≠ 13) → (tag b ≠ 46 ∨ j ≠ 14) → (tag b ≠ 46 ∨ j ≠ 15) → fld F b j = fld Fo b j) ∧ (∀ b j : Nat, elm F b j = elm Fo b j)) → (fld F p0 4 = .ref x0) → (fld F x0 28 = .ref x1) → (fld F x0 29 = .ref x2) → (fld F p0 9 = .int z14448) → (fld F p0 8 = .int z14449) → (fld F p0 13 = .int z14450) → (STK x3 z14448) → (SPT x3 x4 z14448 z14449) → (KF z14448 z14450) → lv_has ls 2 [(0, .ref p0)] → W p l e { frames := 6, cells := 0, slots := 0, locals := 129 } s m args below meth c H locs 0 0 Q (F0 m 57 ls [.int z14447]) := by
    intro z14447 z14448 z14449 z14450 F H locs ls rz14447 rz14448 rz14449 rz14450 hT hfr pf0 pf1 pf2 qz14448 qz14449 qz14450 hstk hspt hkf hl
    refine lv_istore_n (lv' := [(1, .int z14447), (0, .ref p0)]) hx hb dX13_readSide_57 rfl hl (by decide) rfl (fun ls hl => ?_)
    refine lv_iload_n hx hb dX13_readSide_58 rfl (lv_at hl 0 rfl) ?_
    refine lv_iconst (v := (-1)) hx hb dX13_readSide_59 (by decide) ?_
    refine lv_icmp_ne (tgt := 68) hx hb dX13_readSide_60 (by decide) (fun c14451 => ?_) (fun c14451 => ?_)
    · have w14452 := cv_ne (rfl : z14447.toInt = z14447.toInt) (by decide : ((-1) : Int32).toInt = (-1)) c14451
      exact K68 z14447 z14448 z14449 z14450 _ _ _ _ (by omega) (by omega) (by omega) (by omega) hT hfr pf0 pf1 pf2 qz14448 qz14449 qz14450 hstk hspt hkf (lv_sub hl [1, 0] rfl)
    · have w14453 := cv_eq (rfl : z14447.toInt = z14447.toInt) (by decide : ((-1) : Int32).toInt = (-1)) c14451
      refine lv_aload_n hx hb dX13_readSide_63 rfl (lv_at hl 1 rfl) ?_
      refine lv_iconst (v := 1) hx hb dX13_readSide_64 (by decide) ?_
      refine t_cVv (n := 1) (C := RX13) (T := TX13) (N := 37) (As := [.int 1]) (rest := []) X hT (km10_X13_flaw l G tag L F hT.2.2.2 p0 1 x0 x1 x2 z14448 z14449 z14450 m0 g0 (by decide) mx0 gx0 pf0 mx1 gx1 pf1 mx2 gx2 pf2 (by omega) qz14448 (by omega) qz14449 (by omega) qz14450 hkf) m0 g0 rfl rfl qw_548 qw_549 qw_550 qw_5 qw_551 ⟨rfl, by decide +kernel, by decide +kernel, by decide +kernel⟩ ⟨Nat.le_of_ble_eq_true rfl, Nat.le_of_ble_eq_true rfl⟩ hl rfl rfl (Nat.le_of_ble_eq_true rfl) dX13_readSide_65 ⟨Nat.le_of_ble_eq_true rfl, Nat.le_of_ble_eq_true rfl⟩ (fun F H locs hT hz14454 => ?_)
      obtain ⟨yz14454, ⟨soz14454, spz14454, faz14454, qsoz14454, qspz14454, qfaz14454, rsoz14454, rspz14454, rfaz14454, stz14454, ptz14454, hkf, pxz14454_0⟩⟩ := hz14454
      have qz14449 := (yz14454.1 _ 8 (Or.inr (by decide)) (Or.inr (by decide)) (Or.inr (by decide))).trans qz14449
      have pf0 := (yz14454.1 _ 4 (Or.inr (by decide)) (Or.inr (by decide)) (Or.inr (by decide))).trans pf0
      have pf1 := (yz14454.1 _ 28 (Or.inr (by decide)) (Or.inr (by decide)) (Or.inr (by decide))).trans pf1
      have pf2 := (yz14454.1 _ 29 (Or.inr (by decide)) (Or.inr (by decide)) (Or.inr (by decide))).trans pf2
      have hfr : (∀ b j : Nat, (tag b ≠ 46 ∨ j ≠ 8) → (tag b ≠ 46 ∨ j ≠ 9) → (tag b ≠ 46 ∨ j ≠ 10) → (tag b ≠ 46 ∨ j ≠ 11) → (tag b ≠ 46 ∨ j ≠ 12) → (tag b ≠ 46 ∨ j ≠ 13) → (tag b ≠ 46 ∨ j ≠ 14) → (tag b ≠ 46 ∨ j ≠ 15) → fld F b j = fld Fo b j) ∧ (∀ b j : Nat, elm F b j = elm Fo b j) := ⟨fun b j n46_8 n46_9 n46_10 n46_11 n46_12 n46_13 n46_14 n46_15 => (yz14454.1 b j n46_9 n46_13 n46_14).trans (hfr.1 b j n46_8 n46_9 n46_10 n46_11 n46_12 n46_13 n46_14 n46_15), fun b j  => (yz14454.2 b j ).trans (hfr.2 b j )⟩
      have hstk := STK.tr hstk stz14454
      have hspt := SPT.tr hspt ptz14454
      exact K68 z14447 soz14454 spz14454 faz14454 _ _ _ _ (by omega) (by omega) (by omega) (by omega) hT hfr pf0 pf1 pf2 qsoz14454 qspz14454 qfaz14454 hstk hspt hkf (lv_sub hl [1, 0] rfl)
  refine lv_aload_n hx hb dX13_readSide_0 rfl (lv_at hl 0 rfl) ?_
  refine m_ldcKw X 72 rfl dX13_readSide_1 ?_
  refine t_cVi (n := 1) (C := RX13) (T := TX13) (N := 37) (As := [.ref (G.2 (100 + 72))]) (rest := []) X hT (km9_X13_isWord l G tag L F hT.2.2.2 p0 72 x3 m0 g0 (by decide) (by omega) pf3) m0 g0 rfl rfl qw_535 qw_536 qw_537 qw_5 qw_538 ⟨rfl, by decide +kernel, by decide +kernel, by decide +kernel⟩ ⟨Nat.le_of_ble_eq_true rfl, Nat.le_of_ble_eq_true rfl⟩ hl rfl rfl (Nat.le_of_ble_eq_true rfl) dX13_readSide_4 ⟨Nat.le_of_ble_eq_true rfl, Nat.le_of_ble_eq_true rfl⟩ (fun z14455 F9 H locs hT hz14455 => ?_)
  obtain ⟨fz14455, hz14455, xz14455_0⟩ := hz14455
  rw [fz14455] at hT
  refine lv_if_eq (tgt := 14) hx hb dX13_readSide_7 (by decide) (fun c14456 => ?_) (fun c14456 => ?_)
  · have w14457 := cv_eq (rfl : z14455.toInt = z14455.toInt) (by decide : (0 : Int32).toInt = 0) c14456
    refine lv_aload_n hx hb dX13_readSide_14 rfl (lv_at hl 0 rfl) ?_
    refine m_ldcKw X 73 rfl dX13_readSide_15 ?_
    refine t_cVi (n := 1) (C := RX13) (T := TX13) (N := 37) (As := [.ref (G.2 (100 + 73))]) (rest := []) X hT (km9_X13_isWord l G tag L F hT.2.2.2 p0 73 x3 m0 g0 (by decide) (by omega) pf3) m0 g0 rfl rfl qw_535 qw_536 qw_537 qw_5 qw_538 ⟨rfl, by decide +kernel, by decide +kernel, by decide +kernel⟩ ⟨Nat.le_of_ble_eq_true rfl, Nat.le_of_ble_eq_true rfl⟩ hl rfl rfl (Nat.le_of_ble_eq_true rfl) dX13_readSide_18 ⟨Nat.le_of_ble_eq_true rfl, Nat.le_of_ble_eq_true rfl⟩ (fun z14458 F9 H locs hT hz14458 => ?_)
    obtain ⟨fz14458, hz14458, xz14458_0⟩ := hz14458
    rw [fz14458] at hT
    refine lv_if_eq (tgt := 28) hx hb dX13_readSide_21 (by decide) (fun c14459 => ?_) (fun c14459 => ?_)
    · have w14460 := cv_eq (rfl : z14458.toInt = z14458.toInt) (by decide : (0 : Int32).toInt = 0) c14459
      refine lv_aload_n hx hb dX13_readSide_28 rfl (lv_at hl 0 rfl) ?_
      refine m_ldcKw X 74 rfl dX13_readSide_29 ?_
      refine t_cVi (n := 1) (C := RX13) (T := TX13) (N := 37) (As := [.ref (G.2 (100 + 74))]) (rest := []) X hT (km9_X13_isWord l G tag L F hT.2.2.2 p0 74 x3 m0 g0 (by decide) (by omega) pf3) m0 g0 rfl rfl qw_535 qw_536 qw_537 qw_5 qw_538 ⟨rfl, by decide +kernel, by decide +kernel, by decide +kernel⟩ ⟨Nat.le_of_ble_eq_true rfl, Nat.le_of_ble_eq_true rfl⟩ hl rfl rfl (Nat.le_of_ble_eq_true rfl) dX13_readSide_32 ⟨Nat.le_of_ble_eq_true rfl, Nat.le_of_ble_eq_true rfl⟩ (fun z14461 F9 H locs hT hz14461 => ?_)
      obtain ⟨fz14461, hz14461, xz14461_0⟩ := hz14461
      rw [fz14461] at hT
      refine lv_if_eq (tgt := 42) hx hb dX13_readSide_35 (by decide) (fun c14462 => ?_) (fun c14462 => ?_)
      · have w14463 := cv_eq (rfl : z14461.toInt = z14461.toInt) (by decide : (0 : Int32).toInt = 0) c14462
        refine lv_aload_n hx hb dX13_readSide_42 rfl (lv_at hl 0 rfl) ?_
        refine m_ldcKw X 75 rfl dX13_readSide_43 ?_
        refine t_cVi (n := 1) (C := RX13) (T := TX13) (N := 37) (As := [.ref (G.2 (100 + 75))]) (rest := []) X hT (km9_X13_isWord l G tag L F hT.2.2.2 p0 75 x3 m0 g0 (by decide) (by omega) pf3) m0 g0 rfl rfl qw_535 qw_536 qw_537 qw_5 qw_538 ⟨rfl, by decide +kernel, by decide +kernel, by decide +kernel⟩ ⟨Nat.le_of_ble_eq_true rfl, Nat.le_of_ble_eq_true rfl⟩ hl rfl rfl (Nat.le_of_ble_eq_true rfl) dX13_readSide_46 ⟨Nat.le_of_ble_eq_true rfl, Nat.le_of_ble_eq_true rfl⟩ (fun z14464 F9 H locs hT hz14464 => ?_)
        obtain ⟨fz14464, hz14464, xz14464_0⟩ := hz14464
        rw [fz14464] at hT
        refine lv_if_eq (tgt := 56) hx hb dX13_readSide_49 (by decide) (fun c14465 => ?_) (fun c14465 => ?_)
        · have w14466 := cv_eq (rfl : z14464.toInt = z14464.toInt) (by decide : (0 : Int32).toInt = 0) c14465
          refine lv_iconst (v := (-1)) hx hb dX13_readSide_56 (by decide) ?_
          have k14467 : ((-1) : Int32).toInt = (-1) := by decide
          exact K57 (-1) x3 x4 x5 _ _ _ _ (by decide) (by omega) (by omega) (by omega) hT hfr pf0 pf1 pf2 pf3 pf4 pf5 hstk hspt hkf (lv_sub hl [0] rfl)
        · have w14468 := cv_ne (rfl : z14464.toInt = z14464.toInt) (by decide : (0 : Int32).toInt = 0) c14465
          refine lv_iconst (v := 3) hx hb dX13_readSide_52 (by decide) ?_
          refine lv_goto (tgt := 57) hx hb dX13_readSide_53 (by decide) ?_
          have k14469 : (3 : Int32).toInt = 3 := by decide
          exact K57 3 x3 x4 x5 _ _ _ _ (by decide) (by omega) (by omega) (by omega) hT hfr pf0 pf1 pf2 pf3 pf4 pf5 hstk hspt hkf (lv_sub hl [0] rfl)
      · have w14470 := cv_ne (rfl : z14461.toInt = z14461.toInt) (by decide : (0 : Int32).toInt = 0) c14462
        refine lv_iconst (v := 2) hx hb dX13_readSide_38 (by decide) ?_
        refine lv_goto (tgt := 57) hx hb dX13_readSide_39 (by decide) ?_
        have k14471 : (2 : Int32).toInt = 2 := by decide
        exact K57 2 x3 x4 x5 _ _ _ _ (by decide) (by omega) (by omega) (by omega) hT hfr pf0 pf1 pf2 pf3 pf4 pf5 hstk hspt hkf (lv_sub hl [0] rfl)
    · have w14472 := cv_ne (rfl : z14458.toInt = z14458.toInt) (by decide : (0 : Int32).toInt = 0) c14459
      refine lv_iconst (v := 1) hx hb dX13_readSide_24 (by decide) ?_
      refine lv_goto (tgt := 57) hx hb dX13_readSide_25 (by decide) ?_
      have k14473 : (1 : Int32).toInt = 1 := by decide
      exact K57 1 x3 x4 x5 _ _ _ _ (by decide) (by omega) (by omega) (by omega) hT hfr pf0 pf1 pf2 pf3 pf4 pf5 hstk hspt hkf (lv_sub hl [0] rfl)
  · have w14474 := cv_ne (rfl : z14455.toInt = z14455.toInt) (by decide : (0 : Int32).toInt = 0) c14456
    refine lv_iconst (v := 0) hx hb dX13_readSide_10 (by decide) ?_
    refine lv_goto (tgt := 57) hx hb dX13_readSide_11 (by decide) ?_
    have k14475 : (0 : Int32).toInt = 0 := by decide
    exact K57 0 x3 x4 x5 _ _ _ _ (by decide) (by omega) (by omega) (by omega) hT hfr pf0 pf1 pf2 pf3 pf4 pf5 hstk hspt hkf (lv_sub hl [0] rfl)
set_option maxHeartbeats 4000000 in
set_option maxRecDepth 100000 in
theorem km38_X13_bounded (l : Launch) (G : KG) (tag : Nat → Nat) (L : List Nat) (Fo : Nat → va_E) (ho : okT G ttC tag L Fo) (p0 : Nat) (p1 : Int32) (p2 : Int32) (x0 : Nat) (x1 : Nat) (x2 : Nat) (x3 : Int32) (x4 : Int32) (x5 : Int32) (m0 : p0 ∈ L) (g0 : tag p0 = 46) (h1 : 0 ≤ p1.toInt ∧ p1.toInt ≤ 0) (h2 : 0 ≤ p2.toInt ∧ p2.toInt ≤ 12) (mx0 : x0 ∈ L) (gx0 : tag x0 = 44) (pf0 : fld Fo p0 4 = .ref x0) (mx1 : x1 ∈ L) (gx1 : tag x1 = 35) (pf1 : fld Fo x0 28 = .ref x1) (mx2 : x2 ∈ L) (gx2 : tag x2 = 36) (pf2 : fld Fo x0 29 = .ref x2) (hx3 : 0 ≤ x3.toInt ∧ x3.toInt ≤ 5) (pf3 : fld Fo p0 9 = .int x3) (hx4 : 0 ≤ x4.toInt ∧ x4.toInt ≤ 1000) (pf4 : fld Fo p0 8 = .int x4) (hx5 : 0 ≤ x5.toInt ∧ x5.toInt ≤ 7) (pf5 : fld Fo p0 13 = .int x5) (hkf : KF x3 x5) : TMi l yX13_bounded cX13_bounded 3 (some .int) { frames := 1, cells := 0, slots := 0, locals := 22 } G ttC tag L Fo [.ref p0, .int p1, .int p2] (fun r F1 => (0 ≤ r.toInt ∧ r.toInt ≤ 12) ∧ ((∀ b j : Nat, (tag b ≠ 46 ∨ j ≠ 9) → (tag b ≠ 46 ∨ j ≠ 13) → (tag b ≠ 46 ∨ j ≠ 14) → fld F1 b j = fld Fo b j) ∧ (∀ b j : Nat, elm F1 b j = elm Fo b j)) ∧ (∃ so sp fa : Int32, fld F1 p0 9 = .int so ∧ fld F1 p0 8 = .int sp ∧ fld F1 p0 13 = .int fa ∧ (0 ≤ so.toInt ∧ so.toInt ≤ 5) ∧ (0 ≤ sp.toInt ∧ sp.toInt ≤ 1000) ∧ (0 ≤ fa.toInt ∧ fa.toInt ≤ 7) ∧ STK x3 so ∧ SPT x3 x4 so sp ∧ KF so fa)) := by
  refine t_bodyi (y := yX13_bounded) (cd := cX13_bounded) (mL := 3) (rt := (some .int)) (rm := { frames := 1, cells := 0, slots := 0, locals := 22 }) (av := [.ref p0, .int p1, .int p2]) (by decide) (Nat.le_of_ble_eq_true rfl) ho ?_
  intro p e s m args below meth c ls A Q hQ X hT hl
  have hx := X.1.1
  have hb := X.1.2.1
  have hl : lv_has ls 3 [(0, .ref p0), (1, .int p1), (2, .int p2)] := hl
  obtain ⟨F, hFo⟩ : ∃ F : Nat → va_E, F = Fo := ⟨_, rfl⟩
  rw [← hFo] at hT pf0 pf1 pf2 pf3 pf4 pf5
  have hfr : (∀ b j : Nat, (tag b ≠ 46 ∨ j ≠ 9) → (tag b ≠ 46 ∨ j ≠ 13) → (tag b ≠ 46 ∨ j ≠ 14) → fld F b j = fld Fo b j) ∧ (∀ b j : Nat, elm F b j = elm Fo b j) := by
    rw [hFo]
    exact ⟨by intros; rfl, by intros; rfl⟩
  have hstk : STK x3 x3 := STK.rf
  have hspt : SPT x3 x4 x3 x4 := SPT.rf
  refine lv_aload_n hx hb dX13_bounded_0 rfl (lv_at hl 0 rfl) ?_
  refine t_get (C := RX13) (T := TX13) (N := 37) X hT m0 g0 rfl rfl 9 (by decide) qw_478 inlX13 rfl dX13_bounded_1 (fun v14771 hv14771 ov14771 => ?_)
  obtain rfl : v14771 = .int x3 := hv14771.symm.trans pf3
  refine lv_iconst (v := 3) hx hb dX13_bounded_4 (by decide) ?_
  refine lv_icmp_eq (tgt := 16) hx hb dX13_bounded_5 (by decide) (fun c14772 => ?_) (fun c14772 => ?_)
  · have w14773 := cv_eq (rfl : x3.toInt = x3.toInt) (by decide : (3 : Int32).toInt = 3) c14772
    refine lv_aload_n hx hb dX13_bounded_16 rfl (lv_at hl 0 rfl) ?_
    refine t_get (C := RX13) (T := TX13) (N := 37) X hT m0 g0 rfl rfl 12 (by decide) qw_516 inlX13 rfl dX13_bounded_17 (fun v14774 hv14774 ov14774 => ?_)
    obtain ⟨z14775, rfl, rz14775⟩ := okV_i ov14774
    refine lv_iload_n hx hb dX13_bounded_20 rfl (lv_at hl 1 rfl) ?_
    refine lv_iload_n hx hb dX13_bounded_21 rfl (lv_at hl 2 rfl) ?_
    refine t_cSi (n := 3) (As := [.int z14775, .int p1, .int p2]) (rest := []) X hT (km19_X13_within l G tag L F hT.2.2.2 z14775 p1 p2 ) qw_568 qw_569 qw_5 qw_570 ⟨by decide +kernel, by decide +kernel, by decide +kernel⟩ ⟨Nat.le_of_ble_eq_true rfl, Nat.le_of_ble_eq_true rfl⟩ hl rfl rfl (Nat.le_of_ble_eq_true rfl) dX13_bounded_22 ⟨Nat.le_of_ble_eq_true rfl, Nat.le_of_ble_eq_true rfl⟩ (fun z14776 F9 H locs hT hz14776 => ?_)
    obtain ⟨fz14776, hz14776, xz14776_0⟩ := hz14776
    rw [fz14776] at hT
    refine lv_if_ne (tgt := 33) hx hb dX13_bounded_25 (by decide) (fun c14777 => ?_) (fun c14777 => ?_)
    · have w14778 := cv_ne (rfl : z14776.toInt = z14776.toInt) (by decide : (0 : Int32).toInt = 0) c14777
      have w14779 := xz14776_0 (by omega)
      refine lv_aload_n hx hb dX13_bounded_33 rfl (lv_at hl 0 rfl) ?_
      refine t_get (C := RX13) (T := TX13) (N := 37) X hT m0 g0 rfl rfl 9 (by decide) qw_478 inlX13 rfl dX13_bounded_34 (fun v14780 hv14780 ov14780 => ?_)
      obtain rfl : v14780 = .int x3 := hv14780.symm.trans pf3
      refine lv_iconst (v := 5) hx hb dX13_bounded_37 (by decide) ?_
      refine lv_icmp_ne (tgt := 45) hx hb dX13_bounded_38 (by decide) (fun c14781 => ?_) (fun c14781 => ?_)
      · have w14782 := cv_ne (rfl : x3.toInt = x3.toInt) (by decide : (5 : Int32).toInt = 5) c14781
        refine lv_aload_n hx hb dX13_bounded_45 rfl (lv_at hl 0 rfl) ?_
        refine t_get (C := RX13) (T := TX13) (N := 37) X hT m0 g0 rfl rfl 12 (by decide) qw_516 inlX13 rfl dX13_bounded_46 (fun v14783 hv14783 ov14783 => ?_)
        obtain rfl : v14783 = .int z14775 := hv14783.symm.trans hv14774
        exact t_iret hQ X hT (⟨(by omega), hfr, ⟨x3, x4, x5, pf3, pf4, pf5, (by omega), (by omega), (by omega), hstk, hspt, hkf⟩⟩) (Nat.le_of_ble_eq_true rfl) (Nat.le_of_ble_eq_true rfl) dX13_bounded_49
      · have w14784 := cv_eq (rfl : x3.toInt = x3.toInt) (by decide : (5 : Int32).toInt = 5) c14781
        exfalso
        omega
    · have w14785 := cv_eq (rfl : z14776.toInt = z14776.toInt) (by decide : (0 : Int32).toInt = 0) c14777
      refine lv_aload_n hx hb dX13_bounded_28 rfl (lv_at hl 0 rfl) ?_
      refine lv_iconst (v := 4) hx hb dX13_bounded_29 (by decide) ?_
      refine t_cVv (n := 1) (C := RX13) (T := TX13) (N := 37) (As := [.int 4]) (rest := []) X hT (km10_X13_flaw l G tag L F hT.2.2.2 p0 4 x0 x1 x2 x3 x4 x5 m0 g0 (by decide) mx0 gx0 pf0 mx1 gx1 pf1 mx2 gx2 pf2 (by omega) pf3 (by omega) pf4 (by omega) pf5 hkf) m0 g0 rfl rfl qw_548 qw_549 qw_550 qw_5 qw_551 ⟨rfl, by decide +kernel, by decide +kernel, by decide +kernel⟩ ⟨Nat.le_of_ble_eq_true rfl, Nat.le_of_ble_eq_true rfl⟩ hl rfl rfl (Nat.le_of_ble_eq_true rfl) dX13_bounded_30 ⟨Nat.le_of_ble_eq_true rfl, Nat.le_of_ble_eq_true rfl⟩ (fun F H locs hT hz14786 => ?_)
      obtain ⟨yz14786, ⟨soz14786, spz14786, faz14786, qsoz14786, qspz14786, qfaz14786, rsoz14786, rspz14786, rfaz14786, stz14786, ptz14786, hkf, pxz14786_0⟩⟩ := hz14786
      have pf0 := (yz14786.1 _ 4 (Or.inr (by decide)) (Or.inr (by decide)) (Or.inr (by decide))).trans pf0
      have pf1 := (yz14786.1 _ 28 (Or.inr (by decide)) (Or.inr (by decide)) (Or.inr (by decide))).trans pf1
      have pf2 := (yz14786.1 _ 29 (Or.inr (by decide)) (Or.inr (by decide)) (Or.inr (by decide))).trans pf2
      have pf4 := (yz14786.1 _ 8 (Or.inr (by decide)) (Or.inr (by decide)) (Or.inr (by decide))).trans pf4
      have hv14774 := (yz14786.1 _ 12 (Or.inr (by decide)) (Or.inr (by decide)) (Or.inr (by decide))).trans hv14774
      have hfr : (∀ b j : Nat, (tag b ≠ 46 ∨ j ≠ 9) → (tag b ≠ 46 ∨ j ≠ 13) → (tag b ≠ 46 ∨ j ≠ 14) → fld F b j = fld Fo b j) ∧ (∀ b j : Nat, elm F b j = elm Fo b j) := ⟨fun b j n46_9 n46_13 n46_14 => (yz14786.1 b j n46_9 n46_13 n46_14).trans (hfr.1 b j n46_9 n46_13 n46_14), fun b j  => (yz14786.2 b j ).trans (hfr.2 b j )⟩
      have hstk := STK.tr hstk stz14786
      have hspt := SPT.tr hspt ptz14786
      refine lv_aload_n hx hb dX13_bounded_33 rfl (lv_at hl 0 rfl) ?_
      refine t_get (C := RX13) (T := TX13) (N := 37) X hT m0 g0 rfl rfl 9 (by decide) qw_478 inlX13 rfl dX13_bounded_34 (fun v14787 hv14787 ov14787 => ?_)
      obtain rfl : v14787 = .int soz14786 := hv14787.symm.trans qsoz14786
      refine lv_iconst (v := 5) hx hb dX13_bounded_37 (by decide) ?_
      refine lv_icmp_ne (tgt := 45) hx hb dX13_bounded_38 (by decide) (fun c14788 => ?_) (fun c14788 => ?_)
      · have w14789 := cv_ne (rfl : soz14786.toInt = soz14786.toInt) (by decide : (5 : Int32).toInt = 5) c14788
        exfalso
        omega
      · have w14790 := cv_eq (rfl : soz14786.toInt = soz14786.toInt) (by decide : (5 : Int32).toInt = 5) c14788
        refine lv_iload_n hx hb dX13_bounded_41 rfl (lv_at hl 1 rfl) ?_
        refine lv_goto (tgt := 49) hx hb dX13_bounded_42 (by decide) ?_
        exact t_iret hQ X hT (⟨(by omega), hfr, ⟨soz14786, spz14786, faz14786, qsoz14786, qspz14786, qfaz14786, (by omega), (by omega), (by omega), hstk, hspt, hkf⟩⟩) (Nat.le_of_ble_eq_true rfl) (Nat.le_of_ble_eq_true rfl) dX13_bounded_49
  · have w14791 := cv_ne (rfl : x3.toInt = x3.toInt) (by decide : (3 : Int32).toInt = 3) c14772
    refine lv_aload_n hx hb dX13_bounded_8 rfl (lv_at hl 0 rfl) ?_
    refine lv_iconst (v := 1) hx hb dX13_bounded_9 (by decide) ?_
    refine t_cVv (n := 1) (C := RX13) (T := TX13) (N := 37) (As := [.int 1]) (rest := []) X hT (km10_X13_flaw l G tag L F hT.2.2.2 p0 1 x0 x1 x2 x3 x4 x5 m0 g0 (by decide) mx0 gx0 pf0 mx1 gx1 pf1 mx2 gx2 pf2 (by omega) pf3 (by omega) pf4 (by omega) pf5 hkf) m0 g0 rfl rfl qw_548 qw_549 qw_550 qw_5 qw_551 ⟨rfl, by decide +kernel, by decide +kernel, by decide +kernel⟩ ⟨Nat.le_of_ble_eq_true rfl, Nat.le_of_ble_eq_true rfl⟩ hl rfl rfl (Nat.le_of_ble_eq_true rfl) dX13_bounded_10 ⟨Nat.le_of_ble_eq_true rfl, Nat.le_of_ble_eq_true rfl⟩ (fun F H locs hT hz14792 => ?_)
    obtain ⟨yz14792, ⟨soz14792, spz14792, faz14792, qsoz14792, qspz14792, qfaz14792, rsoz14792, rspz14792, rfaz14792, stz14792, ptz14792, hkf, pxz14792_0⟩⟩ := hz14792
    have pf0 := (yz14792.1 _ 4 (Or.inr (by decide)) (Or.inr (by decide)) (Or.inr (by decide))).trans pf0
    have pf1 := (yz14792.1 _ 28 (Or.inr (by decide)) (Or.inr (by decide)) (Or.inr (by decide))).trans pf1
    have pf2 := (yz14792.1 _ 29 (Or.inr (by decide)) (Or.inr (by decide)) (Or.inr (by decide))).trans pf2
    have pf4 := (yz14792.1 _ 8 (Or.inr (by decide)) (Or.inr (by decide)) (Or.inr (by decide))).trans pf4
    have hfr : (∀ b j : Nat, (tag b ≠ 46 ∨ j ≠ 9) → (tag b ≠ 46 ∨ j ≠ 13) → (tag b ≠ 46 ∨ j ≠ 14) → fld F b j = fld Fo b j) ∧ (∀ b j : Nat, elm F b j = elm Fo b j) := ⟨fun b j n46_9 n46_13 n46_14 => (yz14792.1 b j n46_9 n46_13 n46_14).trans (hfr.1 b j n46_9 n46_13 n46_14), fun b j  => (yz14792.2 b j ).trans (hfr.2 b j )⟩
    have hstk := STK.tr hstk stz14792
    have hspt := SPT.tr hspt ptz14792
    refine lv_goto (tgt := 33) hx hb dX13_bounded_13 (by decide) ?_
    refine lv_aload_n hx hb dX13_bounded_33 rfl (lv_at hl 0 rfl) ?_
    refine t_get (C := RX13) (T := TX13) (N := 37) X hT m0 g0 rfl rfl 9 (by decide) qw_478 inlX13 rfl dX13_bounded_34 (fun v14793 hv14793 ov14793 => ?_)
    obtain rfl : v14793 = .int soz14792 := hv14793.symm.trans qsoz14792
    refine lv_iconst (v := 5) hx hb dX13_bounded_37 (by decide) ?_
    refine lv_icmp_ne (tgt := 45) hx hb dX13_bounded_38 (by decide) (fun c14794 => ?_) (fun c14794 => ?_)
    · have w14795 := cv_ne (rfl : soz14792.toInt = soz14792.toInt) (by decide : (5 : Int32).toInt = 5) c14794
      exfalso
      omega
    · have w14796 := cv_eq (rfl : soz14792.toInt = soz14792.toInt) (by decide : (5 : Int32).toInt = 5) c14794
      refine lv_iload_n hx hb dX13_bounded_41 rfl (lv_at hl 1 rfl) ?_
      refine lv_goto (tgt := 49) hx hb dX13_bounded_42 (by decide) ?_
      exact t_iret hQ X hT (⟨(by omega), hfr, ⟨soz14792, spz14792, faz14792, qsoz14792, qspz14792, qfaz14792, (by omega), (by omega), (by omega), hstk, hspt, hkf⟩⟩) (Nat.le_of_ble_eq_true rfl) (Nat.le_of_ble_eq_true rfl) dX13_bounded_49
set_option maxHeartbeats 4000000 in
set_option maxRecDepth 100000 in
theorem km39_X13_readWhole (l : Launch) (G : KG) (tag : Nat → Nat) (L : List Nat) (Fo : Nat → va_E) (ho : okT G ttC tag L Fo) (p0 : Nat) (p1 : Int32) (p2 : Int32) (x0 : Nat) (x1 : Nat) (x2 : Nat) (x3 : Int32) (x4 : Int32) (x5 : Int32) (m0 : p0 ∈ L) (g0 : tag p0 = 46) (h1 : 0 ≤ p1.toInt ∧ p1.toInt ≤ 0) (h2 : 0 ≤ p2.toInt ∧ p2.toInt ≤ 12) (mx0 : x0 ∈ L) (gx0 : tag x0 = 44) (pf0 : fld Fo p0 4 = .ref x0) (mx1 : x1 ∈ L) (gx1 : tag x1 = 35) (pf1 : fld Fo x0 28 = .ref x1) (mx2 : x2 ∈ L) (gx2 : tag x2 = 36) (pf2 : fld Fo x0 29 = .ref x2) (hx3 : 0 ≤ x3.toInt ∧ x3.toInt ≤ 5) (pf3 : fld Fo p0 9 = .int x3) (hx4 : 0 ≤ x4.toInt ∧ x4.toInt ≤ 1000) (pf4 : fld Fo p0 8 = .int x4) (hx5 : 0 ≤ x5.toInt ∧ x5.toInt ≤ 7) (pf5 : fld Fo p0 13 = .int x5) (hkf : KF x3 x5) : TMi l yX13_readWhole cX13_readWhole 4 (some .int) { frames := 2, cells := 0, slots := 0, locals := 44 } G ttC tag L Fo [.ref p0, .int p1, .int p2] (fun r F1 => (0 ≤ r.toInt ∧ r.toInt ≤ 12) ∧ ((∀ b j : Nat, (tag b ≠ 46 ∨ j ≠ 8) → (tag b ≠ 46 ∨ j ≠ 9) → (tag b ≠ 46 ∨ j ≠ 10) → (tag b ≠ 46 ∨ j ≠ 11) → (tag b ≠ 46 ∨ j ≠ 12) → (tag b ≠ 46 ∨ j ≠ 13) → (tag b ≠ 46 ∨ j ≠ 14) → (tag b ≠ 46 ∨ j ≠ 15) → fld F1 b j = fld Fo b j) ∧ (∀ b j : Nat, elm F1 b j = elm Fo b j)) ∧ (∃ so sp fa : Int32, fld F1 p0 9 = .int so ∧ fld F1 p0 8 = .int sp ∧ fld F1 p0 13 = .int fa ∧ (0 ≤ so.toInt ∧ so.toInt ≤ 5) ∧ (0 ≤ sp.toInt ∧ sp.toInt ≤ 1000) ∧ (0 ≤ fa.toInt ∧ fa.toInt ≤ 7) ∧ STK x3 so ∧ SPT x3 x4 so sp ∧ KF so fa)) := by
  refine t_bodyi (y := yX13_readWhole) (cd := cX13_readWhole) (mL := 4) (rt := (some .int)) (rm := { frames := 2, cells := 0, slots := 0, locals := 44 }) (av := [.ref p0, .int p1, .int p2]) (by decide) (Nat.le_of_ble_eq_true rfl) ho ?_
  intro p e s m args below meth c ls A Q hQ X hT hl
  have hx := X.1.1
  have hb := X.1.2.1
  have hl : lv_has ls 4 [(0, .ref p0), (1, .int p1), (2, .int p2)] := hl
  obtain ⟨F, hFo⟩ : ∃ F : Nat → va_E, F = Fo := ⟨_, rfl⟩
  rw [← hFo] at hT pf0 pf1 pf2 pf3 pf4 pf5
  have hfr : (∀ b j : Nat, (tag b ≠ 46 ∨ j ≠ 8) → (tag b ≠ 46 ∨ j ≠ 9) → (tag b ≠ 46 ∨ j ≠ 10) → (tag b ≠ 46 ∨ j ≠ 11) → (tag b ≠ 46 ∨ j ≠ 12) → (tag b ≠ 46 ∨ j ≠ 13) → (tag b ≠ 46 ∨ j ≠ 14) → (tag b ≠ 46 ∨ j ≠ 15) → fld F b j = fld Fo b j) ∧ (∀ b j : Nat, elm F b j = elm Fo b j) := by
    rw [hFo]
    exact ⟨by intros; rfl, by intros; rfl⟩
  have hstk : STK x3 x3 := STK.rf
  have hspt : SPT x3 x4 x3 x4 := SPT.rf
  refine lv_aload_n hx hb dX13_readWhole_0 rfl (lv_at hl 0 rfl) ?_
  refine lv_iload_n hx hb dX13_readWhole_1 rfl (lv_at hl 1 rfl) ?_
  refine lv_iload_n hx hb dX13_readWhole_2 rfl (lv_at hl 2 rfl) ?_
  refine t_cVi (n := 2) (C := RX13) (T := TX13) (N := 37) (As := [.int p1, .int p2]) (rest := []) X hT (km38_X13_bounded l G tag L F hT.2.2.2 p0 p1 p2 x0 x1 x2 x3 x4 x5 m0 g0 (by omega) (by omega) mx0 gx0 pf0 mx1 gx1 pf1 mx2 gx2 pf2 (by omega) pf3 (by omega) pf4 (by omega) pf5 hkf) m0 g0 rfl rfl qw_564 qw_565 qw_566 qw_5 qw_567 ⟨rfl, by decide +kernel, by decide +kernel, by decide +kernel⟩ ⟨Nat.le_of_ble_eq_true rfl, Nat.le_of_ble_eq_true rfl⟩ hl rfl rfl (Nat.le_of_ble_eq_true rfl) dX13_readWhole_3 ⟨Nat.le_of_ble_eq_true rfl, Nat.le_of_ble_eq_true rfl⟩ (fun z14819 F H locs hT hz14819 => ?_)
  obtain ⟨hz14819, yz14819, ⟨soz14819, spz14819, faz14819, qsoz14819, qspz14819, qfaz14819, rsoz14819, rspz14819, rfaz14819, stz14819, ptz14819, hkf⟩⟩ := hz14819
  have pf0 := (yz14819.1 _ 4 (Or.inr (by decide)) (Or.inr (by decide)) (Or.inr (by decide))).trans pf0
  have pf1 := (yz14819.1 _ 28 (Or.inr (by decide)) (Or.inr (by decide)) (Or.inr (by decide))).trans pf1
  have pf2 := (yz14819.1 _ 29 (Or.inr (by decide)) (Or.inr (by decide)) (Or.inr (by decide))).trans pf2
  have pf4 := (yz14819.1 _ 8 (Or.inr (by decide)) (Or.inr (by decide)) (Or.inr (by decide))).trans pf4
  have hfr : (∀ b j : Nat, (tag b ≠ 46 ∨ j ≠ 8) → (tag b ≠ 46 ∨ j ≠ 9) → (tag b ≠ 46 ∨ j ≠ 10) → (tag b ≠ 46 ∨ j ≠ 11) → (tag b ≠ 46 ∨ j ≠ 12) → (tag b ≠ 46 ∨ j ≠ 13) → (tag b ≠ 46 ∨ j ≠ 14) → (tag b ≠ 46 ∨ j ≠ 15) → fld F b j = fld Fo b j) ∧ (∀ b j : Nat, elm F b j = elm Fo b j) := ⟨fun b j n46_8 n46_9 n46_10 n46_11 n46_12 n46_13 n46_14 n46_15 => (yz14819.1 b j n46_9 n46_13 n46_14).trans (hfr.1 b j n46_8 n46_9 n46_10 n46_11 n46_12 n46_13 n46_14 n46_15), fun b j  => (yz14819.2 b j ).trans (hfr.2 b j )⟩
  have hstk := STK.tr hstk stz14819
  have hspt := SPT.tr hspt ptz14819
  refine lv_istore_n (lv' := [(3, .int z14819), (0, .ref p0), (1, .int p1), (2, .int p2)]) hx hb dX13_readWhole_6 rfl hl (by decide) rfl (fun ls hl => ?_)
  refine lv_aload_n hx hb dX13_readWhole_7 rfl (lv_at hl 1 rfl) ?_
  refine t_cVv (n := 0) (C := RX13) (T := TX13) (N := 37) (As := []) (rest := []) X hT (km14_X13_goesOn l G tag L F hT.2.2.2 p0 x0 x1 x2 soz14819 spz14819 faz14819 m0 g0 mx0 gx0 pf0 mx1 gx1 pf1 mx2 gx2 pf2 (by omega) qsoz14819 (by omega) qspz14819 (by omega) qfaz14819 hkf) m0 g0 rfl rfl qw_508 qw_509 qw_510 qw_5 qw_511 ⟨rfl, by decide +kernel, by decide +kernel, by decide +kernel⟩ ⟨Nat.le_of_ble_eq_true rfl, Nat.le_of_ble_eq_true rfl⟩ hl rfl rfl (Nat.le_of_ble_eq_true rfl) dX13_readWhole_8 ⟨Nat.le_of_ble_eq_true rfl, Nat.le_of_ble_eq_true rfl⟩ (fun F H locs hT hz14820 => ?_)
  obtain ⟨yz14820, ⟨soz14820, spz14820, faz14820, qsoz14820, qspz14820, qfaz14820, rsoz14820, rspz14820, rfaz14820, stz14820, ptz14820, hkf⟩⟩ := hz14820
  have pf0 := (yz14820.1 _ 4 (Or.inr (by decide)) (Or.inr (by decide)) (Or.inr (by decide)) (Or.inr (by decide)) (Or.inr (by decide)) (Or.inr (by decide))).trans pf0
  have pf1 := (yz14820.1 _ 28 (Or.inr (by decide)) (Or.inr (by decide)) (Or.inr (by decide)) (Or.inr (by decide)) (Or.inr (by decide)) (Or.inr (by decide))).trans pf1
  have pf2 := (yz14820.1 _ 29 (Or.inr (by decide)) (Or.inr (by decide)) (Or.inr (by decide)) (Or.inr (by decide)) (Or.inr (by decide)) (Or.inr (by decide))).trans pf2
  have qfaz14819 := (yz14820.1 _ 13 (Or.inr (by decide)) (Or.inr (by decide)) (Or.inr (by decide)) (Or.inr (by decide)) (Or.inr (by decide)) (Or.inr (by decide))).trans qfaz14819
  have hfr : (∀ b j : Nat, (tag b ≠ 46 ∨ j ≠ 8) → (tag b ≠ 46 ∨ j ≠ 9) → (tag b ≠ 46 ∨ j ≠ 10) → (tag b ≠ 46 ∨ j ≠ 11) → (tag b ≠ 46 ∨ j ≠ 12) → (tag b ≠ 46 ∨ j ≠ 13) → (tag b ≠ 46 ∨ j ≠ 14) → (tag b ≠ 46 ∨ j ≠ 15) → fld F b j = fld Fo b j) ∧ (∀ b j : Nat, elm F b j = elm Fo b j) := ⟨fun b j n46_8 n46_9 n46_10 n46_11 n46_12 n46_13 n46_14 n46_15 => (yz14820.1 b j n46_8 n46_9 n46_10 n46_11 n46_12 n46_15).trans (hfr.1 b j n46_8 n46_9 n46_10 n46_11 n46_12 n46_13 n46_14 n46_15), fun b j  => (yz14820.2 b j ).trans (hfr.2 b j )⟩
  have hstk := STK.tr hstk stz14820
  have hspt := SPT.tr hspt ptz14820
  refine lv_iload_n hx hb dX13_readWhole_11 rfl (lv_at hl 0 rfl) ?_
  exact t_iret hQ X hT (⟨(by omega), hfr, ⟨soz14820, spz14820, faz14820, qsoz14820, qspz14820, qfaz14820, (by omega), (by omega), (by omega), hstk, hspt, hkf⟩⟩) (Nat.le_of_ble_eq_true rfl) (Nat.le_of_ble_eq_true rfl) dX13_readWhole_12
