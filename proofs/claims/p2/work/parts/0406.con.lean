set_option maxHeartbeats 4000000 in
set_option maxRecDepth 100000 in
theorem km35_X13_known (l : Launch) (G : KG) (tag : Nat → Nat) (L : List Nat) (Fo : Nat → va_E) (ho : okT G ttC tag L Fo) (p0 : Nat) (p1 : Int32) (x0 : Nat) (x1 : Nat) (x2 : Nat) (x3 : Int32) (x4 : Int32) (x5 : Int32) (m0 : p0 ∈ L) (g0 : tag p0 = 46) (h1 : 0 ≤ p1.toInt ∧ p1.toInt ≤ 0) (mx0 : x0 ∈ L) (gx0 : tag x0 = 44) (pf0 : fld Fo p0 4 = .ref x0) (mx1 : x1 ∈ L) (gx1 : tag x1 = 35) (pf1 : fld Fo x0 28 = .ref x1) (mx2 : x2 ∈ L) (gx2 : tag x2 = 36) (pf2 : fld Fo x0 29 = .ref x2) (hx3 : 0 ≤ x3.toInt ∧ x3.toInt ≤ 5) (pf3 : fld Fo p0 9 = .int x3) (hx4 : 0 ≤ x4.toInt ∧ x4.toInt ≤ 1000) (pf4 : fld Fo p0 8 = .int x4) (hx5 : 0 ≤ x5.toInt ∧ x5.toInt ≤ 7) (pf5 : fld Fo p0 13 = .int x5) (hrel : MSR Fo x1 x2) (hkf : KF x3 x5) : TMi l yX13_known cX13_known 3 (some .int) { frames := 7, cells := 0, slots := 0, locals := 149 } G ttC tag L Fo [.ref p0, .int p1] (fun r F1 => (0 ≤ r.toInt ∧ r.toInt ≤ 3) ∧ ((∀ b j : Nat, (tag b ≠ 46 ∨ j ≠ 9) → (tag b ≠ 46 ∨ j ≠ 13) → (tag b ≠ 46 ∨ j ≠ 14) → fld F1 b j = fld Fo b j) ∧ (∀ b j : Nat, elm F1 b j = elm Fo b j)) ∧ (MSR F1 x1 x2) ∧ (∃ so sp fa : Int32, fld F1 p0 9 = .int so ∧ fld F1 p0 8 = .int sp ∧ fld F1 p0 13 = .int fa ∧ (0 ≤ so.toInt ∧ so.toInt ≤ 5) ∧ (0 ≤ sp.toInt ∧ sp.toInt ≤ 1000) ∧ (0 ≤ fa.toInt ∧ fa.toInt ≤ 7) ∧ STK x3 so ∧ SPT x3 x4 so sp ∧ KF so fa)) := by
  refine t_bodyi (y := yX13_known) (cd := cX13_known) (mL := 3) (rt := (some .int)) (rm := { frames := 7, cells := 0, slots := 0, locals := 149 }) (av := [.ref p0, .int p1]) (by decide) (Nat.le_of_ble_eq_true rfl) ho ?_
  intro p e s m args below meth c ls A Q hQ X hT hl
  have hx := X.1.1
  have hb := X.1.2.1
  have hl : lv_has ls 3 [(0, .ref p0), (1, .int p1)] := hl
  obtain ⟨F, hFo⟩ : ∃ F : Nat → va_E, F = Fo := ⟨_, rfl⟩
  rw [← hFo] at hT pf0 pf1 pf2 pf3 pf4 pf5 hrel
  have hfr : (∀ b j : Nat, (tag b ≠ 46 ∨ j ≠ 9) → (tag b ≠ 46 ∨ j ≠ 13) → (tag b ≠ 46 ∨ j ≠ 14) → fld F b j = fld Fo b j) ∧ (∀ b j : Nat, elm F b j = elm Fo b j) := by
    rw [hFo]
    exact ⟨by intros; rfl, by intros; rfl⟩
  have hstk : STK x3 x3 := STK.rf
  have hspt : SPT x3 x4 x3 x4 := SPT.rf
  refine lv_aload_n hx hb dX13_known_0 rfl (lv_at hl 0 rfl) ?_
  refine t_cVi (n := 0) (C := RX13) (T := TX13) (N := 37) (As := []) (rest := []) X hT (km16_X13_isName l G tag L F hT.2.2.2 p0 x3 m0 g0 (by omega) pf3) m0 g0 rfl rfl qw_599 qw_600 qw_601 qw_5 qw_602 ⟨rfl, by decide +kernel, by decide +kernel, by decide +kernel⟩ ⟨Nat.le_of_ble_eq_true rfl, Nat.le_of_ble_eq_true rfl⟩ hl rfl rfl (Nat.le_of_ble_eq_true rfl) dX13_known_1 ⟨Nat.le_of_ble_eq_true rfl, Nat.le_of_ble_eq_true rfl⟩ (fun z14291 F9 H locs hT hz14291 => ?_)
  obtain ⟨fz14291, hz14291⟩ := hz14291
  rw [fz14291] at hT
  refine lv_if_ne (tgt := 12) hx hb dX13_known_4 (by decide) (fun c14292 => ?_) (fun c14292 => ?_)
  · have w14293 := cv_ne (rfl : z14291.toInt = z14291.toInt) (by decide : (0 : Int32).toInt = 0) c14292
    refine lv_aload_n hx hb dX13_known_12 rfl (lv_at hl 0 rfl) ?_
    refine t_get (C := RX13) (T := TX13) (N := 37) X hT m0 g0 rfl rfl 4 (by decide) qw_477 inlX13 rfl dX13_known_13 (fun v14294 hv14294 ov14294 => ?_)
    obtain rfl : v14294 = .ref x0 := hv14294.symm.trans pf0
    refine lv_aload_n hx hb dX13_known_16 rfl (lv_at hl 0 rfl) ?_
    refine t_get (C := RX13) (T := TX13) (N := 37) X hT m0 g0 rfl rfl 15 (by decide) qw_514 inlX13 rfl dX13_known_17 (fun v14295 hv14295 ov14295 => ?_)
    obtain ⟨z14296, rfl⟩ := ov14295
    refine t_cVi (n := 1) (C := RX12) (T := TX12) (N := 31) (As := [.long z14296]) (rest := []) X hT (km17_X12_find l G tag L F hT.2.2.2 x0 z14296 mx0 gx0) mx0 gx0 rfl rfl qw_603 qw_604 qw_605 qw_476 qw_606 ⟨rfl, by decide +kernel, by decide +kernel, by decide +kernel⟩ ⟨Nat.le_of_ble_eq_true rfl, Nat.le_of_ble_eq_true rfl⟩ hl rfl rfl (Nat.le_of_ble_eq_true rfl) dX13_known_20 ⟨Nat.le_of_ble_eq_true rfl, Nat.le_of_ble_eq_true rfl⟩ (fun z14297 F9 H locs hT hz14297 => ?_)
    obtain ⟨fz14297, hz14297⟩ := hz14297
    rw [fz14297] at hT
    refine lv_istore_n (lv' := [(2, .int z14297), (0, .ref p0), (1, .int p1)]) hx hb dX13_known_23 rfl hl (by decide) rfl (fun ls hl => ?_)
    refine lv_iload_n hx hb dX13_known_24 rfl (lv_at hl 0 rfl) ?_
    refine lv_iconst (v := (-1)) hx hb dX13_known_25 (by decide) ?_
    refine lv_icmp_eq (tgt := 42) hx hb dX13_known_26 (by decide) (fun c14298 => ?_) (fun c14298 => ?_)
    · have w14299 := cv_eq (rfl : z14297.toInt = z14297.toInt) (by decide : ((-1) : Int32).toInt = (-1)) c14298
      refine lv_aload_n hx hb dX13_known_42 rfl (lv_at hl 1 rfl) ?_
      refine lv_iconst (v := 2) hx hb dX13_known_43 (by decide) ?_
      refine t_cVv (n := 1) (C := RX13) (T := TX13) (N := 37) (As := [.int 2]) (rest := []) X hT (km10_X13_flaw l G tag L F hT.2.2.2 p0 2 x0 x1 x2 x3 x4 x5 m0 g0 (by decide) mx0 gx0 pf0 mx1 gx1 pf1 mx2 gx2 pf2 (by omega) pf3 (by omega) pf4 (by omega) pf5 hkf) m0 g0 rfl rfl qw_548 qw_549 qw_550 qw_5 qw_551 ⟨rfl, by decide +kernel, by decide +kernel, by decide +kernel⟩ ⟨Nat.le_of_ble_eq_true rfl, Nat.le_of_ble_eq_true rfl⟩ hl rfl rfl (Nat.le_of_ble_eq_true rfl) dX13_known_44 ⟨Nat.le_of_ble_eq_true rfl, Nat.le_of_ble_eq_true rfl⟩ (fun F H locs hT hz14300 => ?_)
      obtain ⟨yz14300, ⟨soz14300, spz14300, faz14300, qsoz14300, qspz14300, qfaz14300, rsoz14300, rspz14300, rfaz14300, stz14300, ptz14300, hkf, pxz14300_0⟩⟩ := hz14300
      have pf0 := (yz14300.1 _ 4 (Or.inr (by decide)) (Or.inr (by decide)) (Or.inr (by decide))).trans pf0
      have pf1 := (yz14300.1 _ 28 (Or.inr (by decide)) (Or.inr (by decide)) (Or.inr (by decide))).trans pf1
      have pf2 := (yz14300.1 _ 29 (Or.inr (by decide)) (Or.inr (by decide)) (Or.inr (by decide))).trans pf2
      have pf4 := (yz14300.1 _ 8 (Or.inr (by decide)) (Or.inr (by decide)) (Or.inr (by decide))).trans pf4
      have hfr : (∀ b j : Nat, (tag b ≠ 46 ∨ j ≠ 9) → (tag b ≠ 46 ∨ j ≠ 13) → (tag b ≠ 46 ∨ j ≠ 14) → fld F b j = fld Fo b j) ∧ (∀ b j : Nat, elm F b j = elm Fo b j) := ⟨fun b j n46_9 n46_13 n46_14 => (yz14300.1 b j n46_9 n46_13 n46_14).trans (hfr.1 b j n46_9 n46_13 n46_14), fun b j  => (yz14300.2 b j ).trans (hfr.2 b j )⟩
      have hrel := msr_of (fun j => yz14300.2 _ j ) (fun j => yz14300.2 _ j ) hrel
      have hstk := STK.tr hstk stz14300
      have hspt := SPT.tr hspt ptz14300
      refine lv_aload_n hx hb dX13_known_47 rfl (lv_at hl 1 rfl) ?_
      refine t_get (C := RX13) (T := TX13) (N := 37) X hT m0 g0 rfl rfl 9 (by decide) qw_478 inlX13 rfl dX13_known_48 (fun v14301 hv14301 ov14301 => ?_)
      obtain rfl : v14301 = .int soz14300 := hv14301.symm.trans qsoz14300
      refine lv_iconst (v := 5) hx hb dX13_known_51 (by decide) ?_
      refine lv_icmp_ne (tgt := 59) hx hb dX13_known_52 (by decide) (fun c14302 => ?_) (fun c14302 => ?_)
      · have w14303 := cv_ne (rfl : soz14300.toInt = soz14300.toInt) (by decide : (5 : Int32).toInt = 5) c14302
        exfalso
        omega
      · have w14304 := cv_eq (rfl : soz14300.toInt = soz14300.toInt) (by decide : (5 : Int32).toInt = 5) c14302
        refine lv_iconst (v := 0) hx hb dX13_known_55 (by decide) ?_
        refine lv_goto (tgt := 68) hx hb dX13_known_56 (by decide) ?_
        have k14305 : (0 : Int32).toInt = 0 := by decide
        exact t_iret hQ X hT (⟨(by decide), hfr, hrel, ⟨soz14300, spz14300, faz14300, qsoz14300, qspz14300, qfaz14300, (by omega), (by omega), (by omega), hstk, hspt, hkf⟩⟩) (Nat.le_of_ble_eq_true rfl) (Nat.le_of_ble_eq_true rfl) dX13_known_68
    · have w14306 := cv_ne (rfl : z14297.toInt = z14297.toInt) (by decide : ((-1) : Int32).toInt = (-1)) c14298
      refine lv_aload_n hx hb dX13_known_29 rfl (lv_at hl 1 rfl) ?_
      refine t_get (C := RX13) (T := TX13) (N := 37) X hT m0 g0 rfl rfl 4 (by decide) qw_477 inlX13 rfl dX13_known_30 (fun v14307 hv14307 ov14307 => ?_)
      obtain rfl : v14307 = .ref x0 := hv14307.symm.trans pf0
      refine t_getN (C := RX12) (T := TX12) (N := 31) X hT mx0 gx0 rfl rfl 28 (by decide) (List.mem_of_getElem? (i := 32) rfl) inlX12 rfl dX13_known_33 (fun v14308 hv14308 ov14308 => ?_)
      obtain rfl : v14308 = .ref x1 := hv14308.symm.trans pf1
      refine lv_iload_n hx hb dX13_known_36 rfl (lv_at hl 0 rfl) ?_
      refine t_ild X hT mx1 gx1 rfl (by omega) dX13_known_37 (fun z14309 vz14309 rz14309 => ?_)
      have rz14309 : (-2147483648) ≤ z14309.toInt ∧ z14309.toInt ≤ 2147483647 := rz14309
      refine lv_iload_n hx hb dX13_known_38 rfl (lv_at hl 2 rfl) ?_
      refine lv_icmp_eq (tgt := 47) hx hb dX13_known_39 (by decide) (fun c14310 => ?_) (fun c14310 => ?_)
      · have w14311 := cv_eq (rfl : z14309.toInt = z14309.toInt) (rfl : p1.toInt = p1.toInt) c14310
        refine lv_aload_n hx hb dX13_known_47 rfl (lv_at hl 1 rfl) ?_
        refine t_get (C := RX13) (T := TX13) (N := 37) X hT m0 g0 rfl rfl 9 (by decide) qw_478 inlX13 rfl dX13_known_48 (fun v14312 hv14312 ov14312 => ?_)
        obtain rfl : v14312 = .int x3 := hv14312.symm.trans pf3
        refine lv_iconst (v := 5) hx hb dX13_known_51 (by decide) ?_
        refine lv_icmp_ne (tgt := 59) hx hb dX13_known_52 (by decide) (fun c14313 => ?_) (fun c14313 => ?_)
        · have w14314 := cv_ne (rfl : x3.toInt = x3.toInt) (by decide : (5 : Int32).toInt = 5) c14313
          refine lv_aload_n hx hb dX13_known_59 rfl (lv_at hl 1 rfl) ?_
          refine t_get (C := RX13) (T := TX13) (N := 37) X hT m0 g0 rfl rfl 4 (by decide) qw_477 inlX13 rfl dX13_known_60 (fun v14315 hv14315 ov14315 => ?_)
          obtain rfl : v14315 = .ref x0 := hv14315.symm.trans pf0
          refine t_getN (C := RX12) (T := TX12) (N := 31) X hT mx0 gx0 rfl rfl 29 (by decide) (List.mem_of_getElem? (i := 33) rfl) inlX12 rfl dX13_known_63 (fun v14316 hv14316 ov14316 => ?_)
          obtain rfl : v14316 = .ref x2 := hv14316.symm.trans pf2
          refine lv_iload_n hx hb dX13_known_66 rfl (lv_at hl 0 rfl) ?_
          refine t_ild X hT mx2 gx2 rfl (by omega) dX13_known_67 (fun z14317 vz14317 rz14317 => ?_)
          have rz14317 : (-2147483648) ≤ z14317.toInt ∧ z14317.toInt ≤ 2147483647 := rz14317
          have rz14317 := msr_0 hrel vz14309 vz14317 (by omega)
          exact t_iret hQ X hT (⟨(by omega), hfr, hrel, ⟨x3, x4, x5, pf3, pf4, pf5, (by omega), (by omega), (by omega), hstk, hspt, hkf⟩⟩) (Nat.le_of_ble_eq_true rfl) (Nat.le_of_ble_eq_true rfl) dX13_known_68
        · have w14318 := cv_eq (rfl : x3.toInt = x3.toInt) (by decide : (5 : Int32).toInt = 5) c14313
          refine lv_iconst (v := 0) hx hb dX13_known_55 (by decide) ?_
          refine lv_goto (tgt := 68) hx hb dX13_known_56 (by decide) ?_
          have k14319 : (0 : Int32).toInt = 0 := by decide
          exact t_iret hQ X hT (⟨(by decide), hfr, hrel, ⟨x3, x4, x5, pf3, pf4, pf5, (by omega), (by omega), (by omega), hstk, hspt, hkf⟩⟩) (Nat.le_of_ble_eq_true rfl) (Nat.le_of_ble_eq_true rfl) dX13_known_68
      · have w14320 := cv_ne (rfl : z14309.toInt = z14309.toInt) (rfl : p1.toInt = p1.toInt) c14310
        refine lv_aload_n hx hb dX13_known_42 rfl (lv_at hl 1 rfl) ?_
        refine lv_iconst (v := 2) hx hb dX13_known_43 (by decide) ?_
        refine t_cVv (n := 1) (C := RX13) (T := TX13) (N := 37) (As := [.int 2]) (rest := []) X hT (km10_X13_flaw l G tag L F hT.2.2.2 p0 2 x0 x1 x2 x3 x4 x5 m0 g0 (by decide) mx0 gx0 pf0 mx1 gx1 pf1 mx2 gx2 pf2 (by omega) pf3 (by omega) pf4 (by omega) pf5 hkf) m0 g0 rfl rfl qw_548 qw_549 qw_550 qw_5 qw_551 ⟨rfl, by decide +kernel, by decide +kernel, by decide +kernel⟩ ⟨Nat.le_of_ble_eq_true rfl, Nat.le_of_ble_eq_true rfl⟩ hl rfl rfl (Nat.le_of_ble_eq_true rfl) dX13_known_44 ⟨Nat.le_of_ble_eq_true rfl, Nat.le_of_ble_eq_true rfl⟩ (fun F H locs hT hz14321 => ?_)
        obtain ⟨yz14321, ⟨soz14321, spz14321, faz14321, qsoz14321, qspz14321, qfaz14321, rsoz14321, rspz14321, rfaz14321, stz14321, ptz14321, hkf, pxz14321_0⟩⟩ := hz14321
        have pf0 := (yz14321.1 _ 4 (Or.inr (by decide)) (Or.inr (by decide)) (Or.inr (by decide))).trans pf0
        have pf1 := (yz14321.1 _ 28 (Or.inr (by decide)) (Or.inr (by decide)) (Or.inr (by decide))).trans pf1
        have pf2 := (yz14321.1 _ 29 (Or.inr (by decide)) (Or.inr (by decide)) (Or.inr (by decide))).trans pf2
        have pf4 := (yz14321.1 _ 8 (Or.inr (by decide)) (Or.inr (by decide)) (Or.inr (by decide))).trans pf4
        have vz14309 := (yz14321.2 _ _ ).trans vz14309
        have hfr : (∀ b j : Nat, (tag b ≠ 46 ∨ j ≠ 9) → (tag b ≠ 46 ∨ j ≠ 13) → (tag b ≠ 46 ∨ j ≠ 14) → fld F b j = fld Fo b j) ∧ (∀ b j : Nat, elm F b j = elm Fo b j) := ⟨fun b j n46_9 n46_13 n46_14 => (yz14321.1 b j n46_9 n46_13 n46_14).trans (hfr.1 b j n46_9 n46_13 n46_14), fun b j  => (yz14321.2 b j ).trans (hfr.2 b j )⟩
        have hrel := msr_of (fun j => yz14321.2 _ j ) (fun j => yz14321.2 _ j ) hrel
        have hstk := STK.tr hstk stz14321
        have hspt := SPT.tr hspt ptz14321
        refine lv_aload_n hx hb dX13_known_47 rfl (lv_at hl 1 rfl) ?_
        refine t_get (C := RX13) (T := TX13) (N := 37) X hT m0 g0 rfl rfl 9 (by decide) qw_478 inlX13 rfl dX13_known_48 (fun v14322 hv14322 ov14322 => ?_)
        obtain rfl : v14322 = .int soz14321 := hv14322.symm.trans qsoz14321
        refine lv_iconst (v := 5) hx hb dX13_known_51 (by decide) ?_
        refine lv_icmp_ne (tgt := 59) hx hb dX13_known_52 (by decide) (fun c14323 => ?_) (fun c14323 => ?_)
        · have w14324 := cv_ne (rfl : soz14321.toInt = soz14321.toInt) (by decide : (5 : Int32).toInt = 5) c14323
          exfalso
          omega
        · have w14325 := cv_eq (rfl : soz14321.toInt = soz14321.toInt) (by decide : (5 : Int32).toInt = 5) c14323
          refine lv_iconst (v := 0) hx hb dX13_known_55 (by decide) ?_
          refine lv_goto (tgt := 68) hx hb dX13_known_56 (by decide) ?_
          have k14326 : (0 : Int32).toInt = 0 := by decide
          exact t_iret hQ X hT (⟨(by decide), hfr, hrel, ⟨soz14321, spz14321, faz14321, qsoz14321, qspz14321, qfaz14321, (by omega), (by omega), (by omega), hstk, hspt, hkf⟩⟩) (Nat.le_of_ble_eq_true rfl) (Nat.le_of_ble_eq_true rfl) dX13_known_68
  · have w14327 := cv_eq (rfl : z14291.toInt = z14291.toInt) (by decide : (0 : Int32).toInt = 0) c14292
    refine lv_aload_n hx hb dX13_known_7 rfl (lv_at hl 0 rfl) ?_
    refine lv_iconst (v := 1) hx hb dX13_known_8 (by decide) ?_
    refine t_cVv (n := 1) (C := RX13) (T := TX13) (N := 37) (As := [.int 1]) (rest := []) X hT (km10_X13_flaw l G tag L F hT.2.2.2 p0 1 x0 x1 x2 x3 x4 x5 m0 g0 (by decide) mx0 gx0 pf0 mx1 gx1 pf1 mx2 gx2 pf2 (by omega) pf3 (by omega) pf4 (by omega) pf5 hkf) m0 g0 rfl rfl qw_548 qw_549 qw_550 qw_5 qw_551 ⟨rfl, by decide +kernel, by decide +kernel, by decide +kernel⟩ ⟨Nat.le_of_ble_eq_true rfl, Nat.le_of_ble_eq_true rfl⟩ hl rfl rfl (Nat.le_of_ble_eq_true rfl) dX13_known_9 ⟨Nat.le_of_ble_eq_true rfl, Nat.le_of_ble_eq_true rfl⟩ (fun F H locs hT hz14328 => ?_)
    obtain ⟨yz14328, ⟨soz14328, spz14328, faz14328, qsoz14328, qspz14328, qfaz14328, rsoz14328, rspz14328, rfaz14328, stz14328, ptz14328, hkf, pxz14328_0⟩⟩ := hz14328
    have pf0 := (yz14328.1 _ 4 (Or.inr (by decide)) (Or.inr (by decide)) (Or.inr (by decide))).trans pf0
    have pf1 := (yz14328.1 _ 28 (Or.inr (by decide)) (Or.inr (by decide)) (Or.inr (by decide))).trans pf1
    have pf2 := (yz14328.1 _ 29 (Or.inr (by decide)) (Or.inr (by decide)) (Or.inr (by decide))).trans pf2
    have pf4 := (yz14328.1 _ 8 (Or.inr (by decide)) (Or.inr (by decide)) (Or.inr (by decide))).trans pf4
    have hfr : (∀ b j : Nat, (tag b ≠ 46 ∨ j ≠ 9) → (tag b ≠ 46 ∨ j ≠ 13) → (tag b ≠ 46 ∨ j ≠ 14) → fld F b j = fld Fo b j) ∧ (∀ b j : Nat, elm F b j = elm Fo b j) := ⟨fun b j n46_9 n46_13 n46_14 => (yz14328.1 b j n46_9 n46_13 n46_14).trans (hfr.1 b j n46_9 n46_13 n46_14), fun b j  => (yz14328.2 b j ).trans (hfr.2 b j )⟩
    have hrel := msr_of (fun j => yz14328.2 _ j ) (fun j => yz14328.2 _ j ) hrel
    have hstk := STK.tr hstk stz14328
    have hspt := SPT.tr hspt ptz14328
    refine lv_aload_n hx hb dX13_known_12 rfl (lv_at hl 0 rfl) ?_
    refine t_get (C := RX13) (T := TX13) (N := 37) X hT m0 g0 rfl rfl 4 (by decide) qw_477 inlX13 rfl dX13_known_13 (fun v14329 hv14329 ov14329 => ?_)
    obtain rfl : v14329 = .ref x0 := hv14329.symm.trans pf0
    refine lv_aload_n hx hb dX13_known_16 rfl (lv_at hl 0 rfl) ?_
    refine t_get (C := RX13) (T := TX13) (N := 37) X hT m0 g0 rfl rfl 15 (by decide) qw_514 inlX13 rfl dX13_known_17 (fun v14330 hv14330 ov14330 => ?_)
    obtain ⟨z14331, rfl⟩ := ov14330
    refine t_cVi (n := 1) (C := RX12) (T := TX12) (N := 31) (As := [.long z14331]) (rest := []) X hT (km17_X12_find l G tag L F hT.2.2.2 x0 z14331 mx0 gx0) mx0 gx0 rfl rfl qw_603 qw_604 qw_605 qw_476 qw_606 ⟨rfl, by decide +kernel, by decide +kernel, by decide +kernel⟩ ⟨Nat.le_of_ble_eq_true rfl, Nat.le_of_ble_eq_true rfl⟩ hl rfl rfl (Nat.le_of_ble_eq_true rfl) dX13_known_20 ⟨Nat.le_of_ble_eq_true rfl, Nat.le_of_ble_eq_true rfl⟩ (fun z14332 F9 H locs hT hz14332 => ?_)
    obtain ⟨fz14332, hz14332⟩ := hz14332
    rw [fz14332] at hT
    refine lv_istore_n (lv' := [(2, .int z14332), (0, .ref p0), (1, .int p1)]) hx hb dX13_known_23 rfl hl (by decide) rfl (fun ls hl => ?_)
    refine lv_iload_n hx hb dX13_known_24 rfl (lv_at hl 0 rfl) ?_
    refine lv_iconst (v := (-1)) hx hb dX13_known_25 (by decide) ?_
    refine lv_icmp_eq (tgt := 42) hx hb dX13_known_26 (by decide) (fun c14333 => ?_) (fun c14333 => ?_)
    · have w14334 := cv_eq (rfl : z14332.toInt = z14332.toInt) (by decide : ((-1) : Int32).toInt = (-1)) c14333
      refine lv_aload_n hx hb dX13_known_42 rfl (lv_at hl 1 rfl) ?_
      refine lv_iconst (v := 2) hx hb dX13_known_43 (by decide) ?_
      refine t_cVv (n := 1) (C := RX13) (T := TX13) (N := 37) (As := [.int 2]) (rest := []) X hT (km10_X13_flaw l G tag L F hT.2.2.2 p0 2 x0 x1 x2 soz14328 spz14328 faz14328 m0 g0 (by decide) mx0 gx0 pf0 mx1 gx1 pf1 mx2 gx2 pf2 (by omega) qsoz14328 (by omega) qspz14328 (by omega) qfaz14328 hkf) m0 g0 rfl rfl qw_548 qw_549 qw_550 qw_5 qw_551 ⟨rfl, by decide +kernel, by decide +kernel, by decide +kernel⟩ ⟨Nat.le_of_ble_eq_true rfl, Nat.le_of_ble_eq_true rfl⟩ hl rfl rfl (Nat.le_of_ble_eq_true rfl) dX13_known_44 ⟨Nat.le_of_ble_eq_true rfl, Nat.le_of_ble_eq_true rfl⟩ (fun F H locs hT hz14335 => ?_)
      obtain ⟨yz14335, ⟨soz14335, spz14335, faz14335, qsoz14335, qspz14335, qfaz14335, rsoz14335, rspz14335, rfaz14335, stz14335, ptz14335, hkf, pxz14335_0⟩⟩ := hz14335
      have pf0 := (yz14335.1 _ 4 (Or.inr (by decide)) (Or.inr (by decide)) (Or.inr (by decide))).trans pf0
      have pf1 := (yz14335.1 _ 28 (Or.inr (by decide)) (Or.inr (by decide)) (Or.inr (by decide))).trans pf1
      have pf2 := (yz14335.1 _ 29 (Or.inr (by decide)) (Or.inr (by decide)) (Or.inr (by decide))).trans pf2
      have qspz14328 := (yz14335.1 _ 8 (Or.inr (by decide)) (Or.inr (by decide)) (Or.inr (by decide))).trans qspz14328
      have hfr : (∀ b j : Nat, (tag b ≠ 46 ∨ j ≠ 9) → (tag b ≠ 46 ∨ j ≠ 13) → (tag b ≠ 46 ∨ j ≠ 14) → fld F b j = fld Fo b j) ∧ (∀ b j : Nat, elm F b j = elm Fo b j) := ⟨fun b j n46_9 n46_13 n46_14 => (yz14335.1 b j n46_9 n46_13 n46_14).trans (hfr.1 b j n46_9 n46_13 n46_14), fun b j  => (yz14335.2 b j ).trans (hfr.2 b j )⟩
      have hrel := msr_of (fun j => yz14335.2 _ j ) (fun j => yz14335.2 _ j ) hrel
      have hstk := STK.tr hstk stz14335
      have hspt := SPT.tr hspt ptz14335
      have k5z14335 : soz14335.toInt = 5 := stz14335 (by omega)
      refine lv_aload_n hx hb dX13_known_47 rfl (lv_at hl 1 rfl) ?_
      refine t_get (C := RX13) (T := TX13) (N := 37) X hT m0 g0 rfl rfl 9 (by decide) qw_478 inlX13 rfl dX13_known_48 (fun v14336 hv14336 ov14336 => ?_)
      obtain rfl : v14336 = .int soz14335 := hv14336.symm.trans qsoz14335
      refine lv_iconst (v := 5) hx hb dX13_known_51 (by decide) ?_
      refine lv_icmp_ne (tgt := 59) hx hb dX13_known_52 (by decide) (fun c14337 => ?_) (fun c14337 => ?_)
      · have w14338 := cv_ne (rfl : soz14335.toInt = soz14335.toInt) (by decide : (5 : Int32).toInt = 5) c14337
        exfalso
        omega
      · have w14339 := cv_eq (rfl : soz14335.toInt = soz14335.toInt) (by decide : (5 : Int32).toInt = 5) c14337
        refine lv_iconst (v := 0) hx hb dX13_known_55 (by decide) ?_
        refine lv_goto (tgt := 68) hx hb dX13_known_56 (by decide) ?_
        have k14340 : (0 : Int32).toInt = 0 := by decide
        exact t_iret hQ X hT (⟨(by decide), hfr, hrel, ⟨soz14335, spz14335, faz14335, qsoz14335, qspz14335, qfaz14335, (by omega), (by omega), (by omega), hstk, hspt, hkf⟩⟩) (Nat.le_of_ble_eq_true rfl) (Nat.le_of_ble_eq_true rfl) dX13_known_68
    · have w14341 := cv_ne (rfl : z14332.toInt = z14332.toInt) (by decide : ((-1) : Int32).toInt = (-1)) c14333
      refine lv_aload_n hx hb dX13_known_29 rfl (lv_at hl 1 rfl) ?_
      refine t_get (C := RX13) (T := TX13) (N := 37) X hT m0 g0 rfl rfl 4 (by decide) qw_477 inlX13 rfl dX13_known_30 (fun v14342 hv14342 ov14342 => ?_)
      obtain rfl : v14342 = .ref x0 := hv14342.symm.trans pf0
      refine t_getN (C := RX12) (T := TX12) (N := 31) X hT mx0 gx0 rfl rfl 28 (by decide) (List.mem_of_getElem? (i := 32) rfl) inlX12 rfl dX13_known_33 (fun v14343 hv14343 ov14343 => ?_)
      obtain rfl : v14343 = .ref x1 := hv14343.symm.trans pf1
      refine lv_iload_n hx hb dX13_known_36 rfl (lv_at hl 0 rfl) ?_
      refine t_ild X hT mx1 gx1 rfl (by omega) dX13_known_37 (fun z14344 vz14344 rz14344 => ?_)
      have rz14344 : (-2147483648) ≤ z14344.toInt ∧ z14344.toInt ≤ 2147483647 := rz14344
      refine lv_iload_n hx hb dX13_known_38 rfl (lv_at hl 2 rfl) ?_
      refine lv_icmp_eq (tgt := 47) hx hb dX13_known_39 (by decide) (fun c14345 => ?_) (fun c14345 => ?_)
      · have w14346 := cv_eq (rfl : z14344.toInt = z14344.toInt) (rfl : p1.toInt = p1.toInt) c14345
        refine lv_aload_n hx hb dX13_known_47 rfl (lv_at hl 1 rfl) ?_
        refine t_get (C := RX13) (T := TX13) (N := 37) X hT m0 g0 rfl rfl 9 (by decide) qw_478 inlX13 rfl dX13_known_48 (fun v14347 hv14347 ov14347 => ?_)
        obtain rfl : v14347 = .int soz14328 := hv14347.symm.trans qsoz14328
        refine lv_iconst (v := 5) hx hb dX13_known_51 (by decide) ?_
        refine lv_icmp_ne (tgt := 59) hx hb dX13_known_52 (by decide) (fun c14348 => ?_) (fun c14348 => ?_)
        · have w14349 := cv_ne (rfl : soz14328.toInt = soz14328.toInt) (by decide : (5 : Int32).toInt = 5) c14348
          exfalso
          omega
        · have w14350 := cv_eq (rfl : soz14328.toInt = soz14328.toInt) (by decide : (5 : Int32).toInt = 5) c14348
          refine lv_iconst (v := 0) hx hb dX13_known_55 (by decide) ?_
          refine lv_goto (tgt := 68) hx hb dX13_known_56 (by decide) ?_
          have k14351 : (0 : Int32).toInt = 0 := by decide
          exact t_iret hQ X hT (⟨(by decide), hfr, hrel, ⟨soz14328, spz14328, faz14328, qsoz14328, qspz14328, qfaz14328, (by omega), (by omega), (by omega), hstk, hspt, hkf⟩⟩) (Nat.le_of_ble_eq_true rfl) (Nat.le_of_ble_eq_true rfl) dX13_known_68
      · have w14352 := cv_ne (rfl : z14344.toInt = z14344.toInt) (rfl : p1.toInt = p1.toInt) c14345
        refine lv_aload_n hx hb dX13_known_42 rfl (lv_at hl 1 rfl) ?_
        refine lv_iconst (v := 2) hx hb dX13_known_43 (by decide) ?_
        refine t_cVv (n := 1) (C := RX13) (T := TX13) (N := 37) (As := [.int 2]) (rest := []) X hT (km10_X13_flaw l G tag L F hT.2.2.2 p0 2 x0 x1 x2 soz14328 spz14328 faz14328 m0 g0 (by decide) mx0 gx0 pf0 mx1 gx1 pf1 mx2 gx2 pf2 (by omega) qsoz14328 (by omega) qspz14328 (by omega) qfaz14328 hkf) m0 g0 rfl rfl qw_548 qw_549 qw_550 qw_5 qw_551 ⟨rfl, by decide +kernel, by decide +kernel, by decide +kernel⟩ ⟨Nat.le_of_ble_eq_true rfl, Nat.le_of_ble_eq_true rfl⟩ hl rfl rfl (Nat.le_of_ble_eq_true rfl) dX13_known_44 ⟨Nat.le_of_ble_eq_true rfl, Nat.le_of_ble_eq_true rfl⟩ (fun F H locs hT hz14353 => ?_)
        obtain ⟨yz14353, ⟨soz14353, spz14353, faz14353, qsoz14353, qspz14353, qfaz14353, rsoz14353, rspz14353, rfaz14353, stz14353, ptz14353, hkf, pxz14353_0⟩⟩ := hz14353
        have pf0 := (yz14353.1 _ 4 (Or.inr (by decide)) (Or.inr (by decide)) (Or.inr (by decide))).trans pf0
        have pf1 := (yz14353.1 _ 28 (Or.inr (by decide)) (Or.inr (by decide)) (Or.inr (by decide))).trans pf1
        have pf2 := (yz14353.1 _ 29 (Or.inr (by decide)) (Or.inr (by decide)) (Or.inr (by decide))).trans pf2
        have qspz14328 := (yz14353.1 _ 8 (Or.inr (by decide)) (Or.inr (by decide)) (Or.inr (by decide))).trans qspz14328
        have vz14344 := (yz14353.2 _ _ ).trans vz14344
        have hfr : (∀ b j : Nat, (tag b ≠ 46 ∨ j ≠ 9) → (tag b ≠ 46 ∨ j ≠ 13) → (tag b ≠ 46 ∨ j ≠ 14) → fld F b j = fld Fo b j) ∧ (∀ b j : Nat, elm F b j = elm Fo b j) := ⟨fun b j n46_9 n46_13 n46_14 => (yz14353.1 b j n46_9 n46_13 n46_14).trans (hfr.1 b j n46_9 n46_13 n46_14), fun b j  => (yz14353.2 b j ).trans (hfr.2 b j )⟩
        have hrel := msr_of (fun j => yz14353.2 _ j ) (fun j => yz14353.2 _ j ) hrel
        have hstk := STK.tr hstk stz14353
        have hspt := SPT.tr hspt ptz14353
        have k5z14353 : soz14353.toInt = 5 := stz14353 (by omega)
        refine lv_aload_n hx hb dX13_known_47 rfl (lv_at hl 1 rfl) ?_
        refine t_get (C := RX13) (T := TX13) (N := 37) X hT m0 g0 rfl rfl 9 (by decide) qw_478 inlX13 rfl dX13_known_48 (fun v14354 hv14354 ov14354 => ?_)
        obtain rfl : v14354 = .int soz14353 := hv14354.symm.trans qsoz14353
        refine lv_iconst (v := 5) hx hb dX13_known_51 (by decide) ?_
        refine lv_icmp_ne (tgt := 59) hx hb dX13_known_52 (by decide) (fun c14355 => ?_) (fun c14355 => ?_)
        · have w14356 := cv_ne (rfl : soz14353.toInt = soz14353.toInt) (by decide : (5 : Int32).toInt = 5) c14355
          exfalso
          omega
        · have w14357 := cv_eq (rfl : soz14353.toInt = soz14353.toInt) (by decide : (5 : Int32).toInt = 5) c14355
          refine lv_iconst (v := 0) hx hb dX13_known_55 (by decide) ?_
          refine lv_goto (tgt := 68) hx hb dX13_known_56 (by decide) ?_
          have k14358 : (0 : Int32).toInt = 0 := by decide
          exact t_iret hQ X hT (⟨(by decide), hfr, hrel, ⟨soz14353, spz14353, faz14353, qsoz14353, qspz14353, qfaz14353, (by omega), (by omega), (by omega), hstk, hspt, hkf⟩⟩) (Nat.le_of_ble_eq_true rfl) (Nat.le_of_ble_eq_true rfl) dX13_known_68
set_option maxHeartbeats 4000000 in
set_option maxRecDepth 100000 in
theorem km36_X13_readKnown (l : Launch) (G : KG) (tag : Nat → Nat) (L : List Nat) (Fo : Nat → va_E) (ho : okT G ttC tag L Fo) (p0 : Nat) (p1 : Int32) (x0 : Nat) (x1 : Nat) (x2 : Nat) (x3 : Int32) (x4 : Int32) (x5 : Int32) (m0 : p0 ∈ L) (g0 : tag p0 = 46) (h1 : 0 ≤ p1.toInt ∧ p1.toInt ≤ 0) (mx0 : x0 ∈ L) (gx0 : tag x0 = 44) (pf0 : fld Fo p0 4 = .ref x0) (mx1 : x1 ∈ L) (gx1 : tag x1 = 35) (pf1 : fld Fo x0 28 = .ref x1) (mx2 : x2 ∈ L) (gx2 : tag x2 = 36) (pf2 : fld Fo x0 29 = .ref x2) (hx3 : 0 ≤ x3.toInt ∧ x3.toInt ≤ 5) (pf3 : fld Fo p0 9 = .int x3) (hx4 : 0 ≤ x4.toInt ∧ x4.toInt ≤ 1000) (pf4 : fld Fo p0 8 = .int x4) (hx5 : 0 ≤ x5.toInt ∧ x5.toInt ≤ 7) (pf5 : fld Fo p0 13 = .int x5) (hrel : MSR Fo x1 x2) (hkf : KF x3 x5) : TMi l yX13_readKnown cX13_readKnown 3 (some .int) { frames := 8, cells := 0, slots := 0, locals := 171 } G ttC tag L Fo [.ref p0, .int p1] (fun r F1 => (0 ≤ r.toInt ∧ r.toInt ≤ 3) ∧ ((∀ b j : Nat, (tag b ≠ 46 ∨ j ≠ 8) → (tag b ≠ 46 ∨ j ≠ 9) → (tag b ≠ 46 ∨ j ≠ 10) → (tag b ≠ 46 ∨ j ≠ 11) → (tag b ≠ 46 ∨ j ≠ 12) → (tag b ≠ 46 ∨ j ≠ 13) → (tag b ≠ 46 ∨ j ≠ 14) → (tag b ≠ 46 ∨ j ≠ 15) → fld F1 b j = fld Fo b j) ∧ (∀ b j : Nat, elm F1 b j = elm Fo b j)) ∧ (MSR F1 x1 x2) ∧ (∃ so sp fa : Int32, fld F1 p0 9 = .int so ∧ fld F1 p0 8 = .int sp ∧ fld F1 p0 13 = .int fa ∧ (0 ≤ so.toInt ∧ so.toInt ≤ 5) ∧ (0 ≤ sp.toInt ∧ sp.toInt ≤ 1000) ∧ (0 ≤ fa.toInt ∧ fa.toInt ≤ 7) ∧ STK x3 so ∧ SPT x3 x4 so sp ∧ KF so fa)) := by
  refine t_bodyi (y := yX13_readKnown) (cd := cX13_readKnown) (mL := 3) (rt := (some .int)) (rm := { frames := 8, cells := 0, slots := 0, locals := 171 }) (av := [.ref p0, .int p1]) (by decide) (Nat.le_of_ble_eq_true rfl) ho ?_
  intro p e s m args below meth c ls A Q hQ X hT hl
  have hx := X.1.1
  have hb := X.1.2.1
  have hl : lv_has ls 3 [(0, .ref p0), (1, .int p1)] := hl
  obtain ⟨F, hFo⟩ : ∃ F : Nat → va_E, F = Fo := ⟨_, rfl⟩
  rw [← hFo] at hT pf0 pf1 pf2 pf3 pf4 pf5 hrel
  have hfr : (∀ b j : Nat, (tag b ≠ 46 ∨ j ≠ 8) → (tag b ≠ 46 ∨ j ≠ 9) → (tag b ≠ 46 ∨ j ≠ 10) → (tag b ≠ 46 ∨ j ≠ 11) → (tag b ≠ 46 ∨ j ≠ 12) → (tag b ≠ 46 ∨ j ≠ 13) → (tag b ≠ 46 ∨ j ≠ 14) → (tag b ≠ 46 ∨ j ≠ 15) → fld F b j = fld Fo b j) ∧ (∀ b j : Nat, elm F b j = elm Fo b j) := by
    rw [hFo]
    exact ⟨by intros; rfl, by intros; rfl⟩
  have hstk : STK x3 x3 := STK.rf
  have hspt : SPT x3 x4 x3 x4 := SPT.rf
  refine lv_aload_n hx hb dX13_readKnown_0 rfl (lv_at hl 0 rfl) ?_
  refine lv_iload_n hx hb dX13_readKnown_1 rfl (lv_at hl 1 rfl) ?_
  refine t_cVi (n := 1) (C := RX13) (T := TX13) (N := 37) (As := [.int p1]) (rest := []) X hT (km35_X13_known l G tag L F hT.2.2.2 p0 p1 x0 x1 x2 x3 x4 x5 m0 g0 (by omega) mx0 gx0 pf0 mx1 gx1 pf1 mx2 gx2 pf2 (by omega) pf3 (by omega) pf4 (by omega) pf5 hrel hkf) m0 g0 rfl rfl qw_636 qw_637 qw_638 qw_5 qw_639 ⟨rfl, by decide +kernel, by decide +kernel, by decide +kernel⟩ ⟨Nat.le_of_ble_eq_true rfl, Nat.le_of_ble_eq_true rfl⟩ hl rfl rfl (Nat.le_of_ble_eq_true rfl) dX13_readKnown_2 ⟨Nat.le_of_ble_eq_true rfl, Nat.le_of_ble_eq_true rfl⟩ (fun z14381 F H locs hT hz14381 => ?_)
  obtain ⟨hz14381, yz14381, hrel, ⟨soz14381, spz14381, faz14381, qsoz14381, qspz14381, qfaz14381, rsoz14381, rspz14381, rfaz14381, stz14381, ptz14381, hkf⟩⟩ := hz14381
  have pf0 := (yz14381.1 _ 4 (Or.inr (by decide)) (Or.inr (by decide)) (Or.inr (by decide))).trans pf0
  have pf1 := (yz14381.1 _ 28 (Or.inr (by decide)) (Or.inr (by decide)) (Or.inr (by decide))).trans pf1
  have pf2 := (yz14381.1 _ 29 (Or.inr (by decide)) (Or.inr (by decide)) (Or.inr (by decide))).trans pf2
  have pf4 := (yz14381.1 _ 8 (Or.inr (by decide)) (Or.inr (by decide)) (Or.inr (by decide))).trans pf4
  have hfr : (∀ b j : Nat, (tag b ≠ 46 ∨ j ≠ 8) → (tag b ≠ 46 ∨ j ≠ 9) → (tag b ≠ 46 ∨ j ≠ 10) → (tag b ≠ 46 ∨ j ≠ 11) → (tag b ≠ 46 ∨ j ≠ 12) → (tag b ≠ 46 ∨ j ≠ 13) → (tag b ≠ 46 ∨ j ≠ 14) → (tag b ≠ 46 ∨ j ≠ 15) → fld F b j = fld Fo b j) ∧ (∀ b j : Nat, elm F b j = elm Fo b j) := ⟨fun b j n46_8 n46_9 n46_10 n46_11 n46_12 n46_13 n46_14 n46_15 => (yz14381.1 b j n46_9 n46_13 n46_14).trans (hfr.1 b j n46_8 n46_9 n46_10 n46_11 n46_12 n46_13 n46_14 n46_15), fun b j  => (yz14381.2 b j ).trans (hfr.2 b j )⟩
  have hstk := STK.tr hstk stz14381
  have hspt := SPT.tr hspt ptz14381
  refine lv_istore_n (lv' := [(2, .int z14381), (0, .ref p0), (1, .int p1)]) hx hb dX13_readKnown_5 rfl hl (by decide) rfl (fun ls hl => ?_)
  refine lv_aload_n hx hb dX13_readKnown_6 rfl (lv_at hl 1 rfl) ?_
  refine t_cVv (n := 0) (C := RX13) (T := TX13) (N := 37) (As := []) (rest := []) X hT (km14_X13_goesOn l G tag L F hT.2.2.2 p0 x0 x1 x2 soz14381 spz14381 faz14381 m0 g0 mx0 gx0 pf0 mx1 gx1 pf1 mx2 gx2 pf2 (by omega) qsoz14381 (by omega) qspz14381 (by omega) qfaz14381 hkf) m0 g0 rfl rfl qw_508 qw_509 qw_510 qw_5 qw_511 ⟨rfl, by decide +kernel, by decide +kernel, by decide +kernel⟩ ⟨Nat.le_of_ble_eq_true rfl, Nat.le_of_ble_eq_true rfl⟩ hl rfl rfl (Nat.le_of_ble_eq_true rfl) dX13_readKnown_7 ⟨Nat.le_of_ble_eq_true rfl, Nat.le_of_ble_eq_true rfl⟩ (fun F H locs hT hz14382 => ?_)
  obtain ⟨yz14382, ⟨soz14382, spz14382, faz14382, qsoz14382, qspz14382, qfaz14382, rsoz14382, rspz14382, rfaz14382, stz14382, ptz14382, hkf⟩⟩ := hz14382
  have pf0 := (yz14382.1 _ 4 (Or.inr (by decide)) (Or.inr (by decide)) (Or.inr (by decide)) (Or.inr (by decide)) (Or.inr (by decide)) (Or.inr (by decide))).trans pf0
  have pf1 := (yz14382.1 _ 28 (Or.inr (by decide)) (Or.inr (by decide)) (Or.inr (by decide)) (Or.inr (by decide)) (Or.inr (by decide)) (Or.inr (by decide))).trans pf1
  have pf2 := (yz14382.1 _ 29 (Or.inr (by decide)) (Or.inr (by decide)) (Or.inr (by decide)) (Or.inr (by decide)) (Or.inr (by decide)) (Or.inr (by decide))).trans pf2
  have qfaz14381 := (yz14382.1 _ 13 (Or.inr (by decide)) (Or.inr (by decide)) (Or.inr (by decide)) (Or.inr (by decide)) (Or.inr (by decide)) (Or.inr (by decide))).trans qfaz14381
  have hfr : (∀ b j : Nat, (tag b ≠ 46 ∨ j ≠ 8) → (tag b ≠ 46 ∨ j ≠ 9) → (tag b ≠ 46 ∨ j ≠ 10) → (tag b ≠ 46 ∨ j ≠ 11) → (tag b ≠ 46 ∨ j ≠ 12) → (tag b ≠ 46 ∨ j ≠ 13) → (tag b ≠ 46 ∨ j ≠ 14) → (tag b ≠ 46 ∨ j ≠ 15) → fld F b j = fld Fo b j) ∧ (∀ b j : Nat, elm F b j = elm Fo b j) := ⟨fun b j n46_8 n46_9 n46_10 n46_11 n46_12 n46_13 n46_14 n46_15 => (yz14382.1 b j n46_8 n46_9 n46_10 n46_11 n46_12 n46_15).trans (hfr.1 b j n46_8 n46_9 n46_10 n46_11 n46_12 n46_13 n46_14 n46_15), fun b j  => (yz14382.2 b j ).trans (hfr.2 b j )⟩
  have hrel := msr_of (fun j => yz14382.2 _ j ) (fun j => yz14382.2 _ j ) hrel
  have hstk := STK.tr hstk stz14382
  have hspt := SPT.tr hspt ptz14382
  refine lv_iload_n hx hb dX13_readKnown_10 rfl (lv_at hl 0 rfl) ?_
  exact t_iret hQ X hT (⟨(by omega), hfr, hrel, ⟨soz14382, spz14382, faz14382, qsoz14382, qspz14382, qfaz14382, (by omega), (by omega), (by omega), hstk, hspt, hkf⟩⟩) (Nat.le_of_ble_eq_true rfl) (Nat.le_of_ble_eq_true rfl) dX13_readKnown_11
set_option maxHeartbeats 4000000 in
set_option maxRecDepth 100000 in
theorem km37_X13_readSide (l : Launch) (G : KG) (tag : Nat → Nat) (L : List Nat) (Fo : Nat → va_E) (ho : okT G ttC tag L Fo) (p0 : Nat) (x0 : Nat) (x1 : Nat) (x2 : Nat) (x3 : Int32) (x4 : Int32) (x5 : Int32) (m0 : p0 ∈ L) (g0 : tag p0 = 46) (mx0 : x0 ∈ L) (gx0 : tag x0 = 44) (pf0 : fld Fo p0 4 = .ref x0) (mx1 : x1 ∈ L) (gx1 : tag x1 = 35) (pf1 : fld Fo x0 28 = .ref x1) (mx2 : x2 ∈ L) (gx2 : tag x2 = 36) (pf2 : fld Fo x0 29 = .ref x2) (hx3 : 0 ≤ x3.toInt ∧ x3.toInt ≤ 5) (pf3 : fld Fo p0 9 = .int x3) (hx4 : 0 ≤ x4.toInt ∧ x4.toInt ≤ 1000) (pf4 : fld Fo p0 8 = .int x4) (hx5 : 0 ≤ x5.toInt ∧ x5.toInt ≤ 7) (pf5 : fld Fo p0 13 = .int x5) (hkf : KF x3 x5) : TMi l yX13_readSide cX13_readSide 2 (some .int) { frames := 6, cells := 0, slots := 0, locals := 129 } G ttC tag L Fo [.ref p0] (fun r F1 => ((-1) ≤ r.toInt ∧ r.toInt ≤ 3) ∧ ((∀ b j : Nat, (tag b ≠ 46 ∨ j ≠ 8) → (tag b ≠ 46 ∨ j ≠ 9) → (tag b ≠ 46 ∨ j ≠ 10) → (tag b ≠ 46 ∨ j ≠ 11) → (tag b ≠ 46 ∨ j ≠ 12) → (tag b ≠ 46 ∨ j ≠ 13) → (tag b ≠ 46 ∨ j ≠ 14) → (tag b ≠ 46 ∨ j ≠ 15) → fld F1 b j = fld Fo b j) ∧ (∀ b j : Nat, elm F1 b j = elm Fo b j)) ∧ (∃ so sp fa : Int32, fld F1 p0 9 = .int so ∧ fld F1 p0 8 = .int sp ∧ fld F1 p0 13 = .int fa ∧ (0 ≤ so.toInt ∧ so.toInt ≤ 5) ∧ (0 ≤ sp.toInt ∧ sp.toInt ≤ 1000) ∧ (0 ≤ fa.toInt ∧ fa.toInt ≤ 7) ∧ STK x3 so ∧ SPT x3 x4 so sp ∧ KF so fa)) := by
  refine t_bodyi (y := yX13_readSide) (cd := cX13_readSide) (mL := 2) (rt := (some .int)) (rm := { frames := 6, cells := 0, slots := 0, locals := 129 }) (av := [.ref p0]) (by decide) (Nat.le_of_ble_eq_true rfl) ho ?_
  intro p e s m args below meth c ls A Q hQ X hT hl
  have hx := X.1.1
  have hb := X.1.2.1
  have hl : lv_has ls 2 [(0, .ref p0)] := hl
  obtain ⟨F, hFo⟩ : ∃ F : Nat → va_E, F = Fo := ⟨_, rfl⟩
  rw [← hFo] at hT pf0 pf1 pf2 pf3 pf4 pf5
  have hfr : (∀ b j : Nat, (tag b ≠ 46 ∨ j ≠ 8) → (tag b ≠ 46 ∨ j ≠ 9) → (tag b ≠ 46 ∨ j ≠ 10) → (tag b ≠ 46 ∨ j ≠ 11) → (tag b ≠ 46 ∨ j ≠ 12) → (tag b ≠ 46 ∨ j ≠ 13) → (tag b ≠ 46 ∨ j ≠ 14) → (tag b ≠ 46 ∨ j ≠ 15) → fld F b j = fld Fo b j) ∧ (∀ b j : Nat, elm F b j = elm Fo b j) := by
    rw [hFo]
    exact ⟨by intros; rfl, by intros; rfl⟩
  have hstk : STK x3 x3 := STK.rf
  have hspt : SPT x3 x4 x3 x4 := SPT.rf
  have K68 : ∀ (z14619 : Int32) (z14620 : Int32) (z14621 : Int32) (z14622 : Int32) (F : Nat → va_E) (H : Heap) (locs : List Loc) (ls : Array Slot), ((-1) ≤ z14619.toInt ∧ z14619.toInt ≤ 3) → (0 ≤ z14620.toInt ∧ z14620.toInt ≤ 5) → (0 ≤ z14621.toInt ∧ z14621.toInt ≤ 1000) → (0 ≤ z14622.toInt ∧ z14622.toInt ≤ 7) → TH G ttC A s tag L F H locs → ((∀ b j : Nat, (tag b ≠ 46 ∨ j ≠ 8) → (tag b ≠ 46 ∨ j ≠ 9) → (tag b ≠ 46 ∨ j ≠ 10) → (tag b ≠ 46 ∨ j ≠ 11) → (tag b ≠ 46 ∨ j ≠ 12) → (tag b ≠ 46 ∨ j ≠ 13) → (tag b ≠ 46 ∨ j ≠ 14) → (tag b ≠ 46 ∨ j ≠ 15) → fld F b j = fld Fo b j) ∧ (∀ b j : Nat, elm F b j = elm Fo b j)) → (fld F p0 4 = .ref x0) → (fld F x0 28 = .ref x1) → (fld F x0 29 = .ref x2) → (fld F p0 9 = .int z14620) → (fld F p0 8 = .int z14621) → (fld F p0 13 = .int z14622) → (STK x3 z14620) → (SPT x3 x4 z14620 z14621) → (KF z14620 z14622) → lv_has ls 2 [(0, .ref p0), (1, .int z14619)] → W p l e { frames := 6, cells := 0, slots := 0, locals := 129 } s m args below meth c H locs 0 0 Q (F0 m 68 ls []) := by
    intro z14619 z14620 z14621 z14622 F H locs ls rz14619 rz14620 rz14621 rz14622 hT hfr pf0 pf1 pf2 qz14620 qz14621 qz14622 hstk hspt hkf hl
    refine lv_aload_n hx hb dX13_readSide_68 rfl (lv_at hl 0 rfl) ?_
    refine t_cVv (n := 0) (C := RX13) (T := TX13) (N := 37) (As := []) (rest := []) X hT (km14_X13_goesOn l G tag L F hT.2.2.2 p0 x0 x1 x2 z14620 z14621 z14622 m0 g0 mx0 gx0 pf0 mx1 gx1 pf1 mx2 gx2 pf2 (by omega) qz14620 (by omega) qz14621 (by omega) qz14622 hkf) m0 g0 rfl rfl qw_508 qw_509 qw_510 qw_5 qw_511 ⟨rfl, by decide +kernel, by decide +kernel, by decide +kernel⟩ ⟨Nat.le_of_ble_eq_true rfl, Nat.le_of_ble_eq_true rfl⟩ hl rfl rfl (Nat.le_of_ble_eq_true rfl) dX13_readSide_69 ⟨Nat.le_of_ble_eq_true rfl, Nat.le_of_ble_eq_true rfl⟩ (fun F H locs hT hz14623 => ?_)
    obtain ⟨yz14623, ⟨soz14623, spz14623, faz14623, qsoz14623, qspz14623, qfaz14623, rsoz14623, rspz14623, rfaz14623, stz14623, ptz14623, hkf⟩⟩ := hz14623
    have qz14622 := (yz14623.1 _ 13 (Or.inr (by decide)) (Or.inr (by decide)) (Or.inr (by decide)) (Or.inr (by decide)) (Or.inr (by decide)) (Or.inr (by decide))).trans qz14622
    have pf0 := (yz14623.1 _ 4 (Or.inr (by decide)) (Or.inr (by decide)) (Or.inr (by decide)) (Or.inr (by decide)) (Or.inr (by decide)) (Or.inr (by decide))).trans pf0
    have pf1 := (yz14623.1 _ 28 (Or.inr (by decide)) (Or.inr (by decide)) (Or.inr (by decide)) (Or.inr (by decide)) (Or.inr (by decide)) (Or.inr (by decide))).trans pf1
    have pf2 := (yz14623.1 _ 29 (Or.inr (by decide)) (Or.inr (by decide)) (Or.inr (by decide)) (Or.inr (by decide)) (Or.inr (by decide)) (Or.inr (by decide))).trans pf2
    have hfr : (∀ b j : Nat, (tag b ≠ 46 ∨ j ≠ 8) → (tag b ≠ 46 ∨ j ≠ 9) → (tag b ≠ 46 ∨ j ≠ 10) → (tag b ≠ 46 ∨ j ≠ 11) → (tag b ≠ 46 ∨ j ≠ 12) → (tag b ≠ 46 ∨ j ≠ 13) → (tag b ≠ 46 ∨ j ≠ 14) → (tag b ≠ 46 ∨ j ≠ 15) → fld F b j = fld Fo b j) ∧ (∀ b j : Nat, elm F b j = elm Fo b j) := ⟨fun b j n46_8 n46_9 n46_10 n46_11 n46_12 n46_13 n46_14 n46_15 => (yz14623.1 b j n46_8 n46_9 n46_10 n46_11 n46_12 n46_15).trans (hfr.1 b j n46_8 n46_9 n46_10 n46_11 n46_12 n46_13 n46_14 n46_15), fun b j  => (yz14623.2 b j ).trans (hfr.2 b j )⟩
    have hstk := STK.tr hstk stz14623
    have hspt := SPT.tr hspt ptz14623
    refine lv_iload_n hx hb dX13_readSide_72 rfl (lv_at hl 1 rfl) ?_
    exact t_iret hQ X hT (⟨(by omega), hfr, ⟨soz14623, spz14623, faz14623, qsoz14623, qspz14623, qfaz14623, (by omega), (by omega), (by omega), hstk, hspt, hkf⟩⟩) (Nat.le_of_ble_eq_true rfl) (Nat.le_of_ble_eq_true rfl) dX13_readSide_73
  have K57 : ∀ (z14624 : Int32) (z14625 : Int32) (z14626 : Int32) (z14627 : Int32) (F : Nat → va_E) (H : Heap) (locs : List Loc) (ls : Array Slot), ((-1) ≤ z14624.toInt ∧ z14624.toInt ≤ 3) → (0 ≤ z14625.toInt ∧ z14625.toInt ≤ 5) → (0 ≤ z14626.toInt ∧ z14626.toInt ≤ 1000) → (0 ≤ z14627.toInt ∧ z14627.toInt ≤ 7) → TH G ttC A s tag L F H locs → ((∀ b j : Nat, (tag b ≠ 46 ∨ j ≠ 8) → (tag b ≠ 46 ∨ j ≠ 9) → (tag b ≠ 46 ∨ j ≠ 10) → (tag b ≠ 46 ∨ j ≠ 11) → (tag b ≠ 46 ∨ j ≠ 12) → (tag b ≠ 46 ∨ j ≠ 13) → (tag b ≠ 46 ∨ j ≠ 14) → (tag b ≠ 46 ∨ j ≠ 15) → fld F b j = fld Fo b j) ∧ (∀ b j : Nat, elm F b j = elm Fo b j)) → (fld F p0 4 = .ref x0) → (fld F x0 28 = .ref x1) → (fld F x0 29 = .ref x2) → (fld F p0 9 = .int z14625) → (fld F p0 8 = .int z14626) → (fld F p0 13 = .int z14627) → (STK x3 z14625) → (SPT x3 x4 z14625 z14626) → (KF z14625 z14627) → lv_has ls 2 [(0, .ref p0)] → W p l e { frames := 6, cells := 0, slots := 0, locals := 129 } s m args below meth c H locs 0 0 Q (F0 m 57 ls [.int z14624]) := by
    intro z14624 z14625 z14626 z14627 F H locs ls rz14624 rz14625 rz14626 rz14627 hT hfr pf0 pf1 pf2 qz14625 qz14626 qz14627 hstk hspt hkf hl
    refine lv_istore_n (lv' := [(1, .int z14624), (0, .ref p0)]) hx hb dX13_readSide_57 rfl hl (by decide) rfl (fun ls hl => ?_)
    refine lv_iload_n hx hb dX13_readSide_58 rfl (lv_at hl 0 rfl) ?_
    refine lv_iconst (v := (-1)) hx hb dX13_readSide_59 (by decide) ?_
    refine lv_icmp_ne (tgt := 68) hx hb dX13_readSide_60 (by decide) (fun c14628 => ?_) (fun c14628 => ?_)
    · have w14629 := cv_ne (rfl : z14624.toInt = z14624.toInt) (by decide : ((-1) : Int32).toInt = (-1)) c14628
      exact K68 z14624 z14625 z14626 z14627 _ _ _ _ (by omega) (by omega) (by omega) (by omega) hT hfr pf0 pf1 pf2 qz14625 qz14626 qz14627 hstk hspt hkf (lv_sub hl [1, 0] rfl)
    · have w14630 := cv_eq (rfl : z14624.toInt = z14624.toInt) (by decide : ((-1) : Int32).toInt = (-1)) c14628
      refine lv_aload_n hx hb dX13_readSide_63 rfl (lv_at hl 1 rfl) ?_
      refine lv_iconst (v := 1) hx hb dX13_readSide_64 (by decide) ?_
      refine t_cVv (n := 1) (C := RX13) (T := TX13) (N := 37) (As := [.int 1]) (rest := []) X hT (km10_X13_flaw l G tag L F hT.2.2.2 p0 1 x0 x1 x2 z14625 z14626 z14627 m0 g0 (by decide) mx0 gx0 pf0 mx1 gx1 pf1 mx2 gx2 pf2 (by omega) qz14625 (by omega) qz14626 (by omega) qz14627 hkf) m0 g0 rfl rfl qw_548 qw_549 qw_550 qw_5 qw_551 ⟨rfl, by decide +kernel, by decide +kernel, by decide +kernel⟩ ⟨Nat.le_of_ble_eq_true rfl, Nat.le_of_ble_eq_true rfl⟩ hl rfl rfl (Nat.le_of_ble_eq_true rfl) dX13_readSide_65 ⟨Nat.le_of_ble_eq_true rfl, Nat.le_of_ble_eq_true rfl⟩ (fun F H locs hT hz14631 => ?_)
      obtain ⟨yz14631, ⟨soz14631, spz14631, faz14631, qsoz14631, qspz14631, qfaz14631, rsoz14631, rspz14631, rfaz14631, stz14631, ptz14631, hkf, pxz14631_0⟩⟩ := hz14631
      have qz14626 := (yz14631.1 _ 8 (Or.inr (by decide)) (Or.inr (by decide)) (Or.inr (by decide))).trans qz14626
      have pf0 := (yz14631.1 _ 4 (Or.inr (by decide)) (Or.inr (by decide)) (Or.inr (by decide))).trans pf0
      have pf1 := (yz14631.1 _ 28 (Or.inr (by decide)) (Or.inr (by decide)) (Or.inr (by decide))).trans pf1
      have pf2 := (yz14631.1 _ 29 (Or.inr (by decide)) (Or.inr (by decide)) (Or.inr (by decide))).trans pf2
      have hfr : (∀ b j : Nat, (tag b ≠ 46 ∨ j ≠ 8) → (tag b ≠ 46 ∨ j ≠ 9) → (tag b ≠ 46 ∨ j ≠ 10) → (tag b ≠ 46 ∨ j ≠ 11) → (tag b ≠ 46 ∨ j ≠ 12) → (tag b ≠ 46 ∨ j ≠ 13) → (tag b ≠ 46 ∨ j ≠ 14) → (tag b ≠ 46 ∨ j ≠ 15) → fld F b j = fld Fo b j) ∧ (∀ b j : Nat, elm F b j = elm Fo b j) := ⟨fun b j n46_8 n46_9 n46_10 n46_11 n46_12 n46_13 n46_14 n46_15 => (yz14631.1 b j n46_9 n46_13 n46_14).trans (hfr.1 b j n46_8 n46_9 n46_10 n46_11 n46_12 n46_13 n46_14 n46_15), fun b j  => (yz14631.2 b j ).trans (hfr.2 b j )⟩
      have hstk := STK.tr hstk stz14631
      have hspt := SPT.tr hspt ptz14631
      exact K68 z14624 soz14631 spz14631 faz14631 _ _ _ _ (by omega) (by omega) (by omega) (by omega) hT hfr pf0 pf1 pf2 qsoz14631 qspz14631 qfaz14631 hstk hspt hkf (lv_sub hl [1, 0] rfl)
  refine lv_aload_n hx hb dX13_readSide_0 rfl (lv_at hl 0 rfl) ?_
  refine m_ldcKw X 72 rfl dX13_readSide_1 ?_
  refine t_cVi (n := 1) (C := RX13) (T := TX13) (N := 37) (As := [.ref (G.2 (100 + 72))]) (rest := []) X hT (km9_X13_isWord l G tag L F hT.2.2.2 p0 72 x3 m0 g0 (by decide) (by omega) pf3) m0 g0 rfl rfl qw_535 qw_536 qw_537 qw_5 qw_538 ⟨rfl, by decide +kernel, by decide +kernel, by decide +kernel⟩ ⟨Nat.le_of_ble_eq_true rfl, Nat.le_of_ble_eq_true rfl⟩ hl rfl rfl (Nat.le_of_ble_eq_true rfl) dX13_readSide_4 ⟨Nat.le_of_ble_eq_true rfl, Nat.le_of_ble_eq_true rfl⟩ (fun z14632 F9 H locs hT hz14632 => ?_)
  obtain ⟨fz14632, hz14632, xz14632_0⟩ := hz14632
  rw [fz14632] at hT
  refine lv_if_eq (tgt := 14) hx hb dX13_readSide_7 (by decide) (fun c14633 => ?_) (fun c14633 => ?_)
  · have w14634 := cv_eq (rfl : z14632.toInt = z14632.toInt) (by decide : (0 : Int32).toInt = 0) c14633
    refine lv_aload_n hx hb dX13_readSide_14 rfl (lv_at hl 0 rfl) ?_
    refine m_ldcKw X 73 rfl dX13_readSide_15 ?_
    refine t_cVi (n := 1) (C := RX13) (T := TX13) (N := 37) (As := [.ref (G.2 (100 + 73))]) (rest := []) X hT (km9_X13_isWord l G tag L F hT.2.2.2 p0 73 x3 m0 g0 (by decide) (by omega) pf3) m0 g0 rfl rfl qw_535 qw_536 qw_537 qw_5 qw_538 ⟨rfl, by decide +kernel, by decide +kernel, by decide +kernel⟩ ⟨Nat.le_of_ble_eq_true rfl, Nat.le_of_ble_eq_true rfl⟩ hl rfl rfl (Nat.le_of_ble_eq_true rfl) dX13_readSide_18 ⟨Nat.le_of_ble_eq_true rfl, Nat.le_of_ble_eq_true rfl⟩ (fun z14635 F9 H locs hT hz14635 => ?_)
    obtain ⟨fz14635, hz14635, xz14635_0⟩ := hz14635
    rw [fz14635] at hT
    refine lv_if_eq (tgt := 28) hx hb dX13_readSide_21 (by decide) (fun c14636 => ?_) (fun c14636 => ?_)
    · have w14637 := cv_eq (rfl : z14635.toInt = z14635.toInt) (by decide : (0 : Int32).toInt = 0) c14636
      refine lv_aload_n hx hb dX13_readSide_28 rfl (lv_at hl 0 rfl) ?_
      refine m_ldcKw X 74 rfl dX13_readSide_29 ?_
      refine t_cVi (n := 1) (C := RX13) (T := TX13) (N := 37) (As := [.ref (G.2 (100 + 74))]) (rest := []) X hT (km9_X13_isWord l G tag L F hT.2.2.2 p0 74 x3 m0 g0 (by decide) (by omega) pf3) m0 g0 rfl rfl qw_535 qw_536 qw_537 qw_5 qw_538 ⟨rfl, by decide +kernel, by decide +kernel, by decide +kernel⟩ ⟨Nat.le_of_ble_eq_true rfl, Nat.le_of_ble_eq_true rfl⟩ hl rfl rfl (Nat.le_of_ble_eq_true rfl) dX13_readSide_32 ⟨Nat.le_of_ble_eq_true rfl, Nat.le_of_ble_eq_true rfl⟩ (fun z14638 F9 H locs hT hz14638 => ?_)
      obtain ⟨fz14638, hz14638, xz14638_0⟩ := hz14638
      rw [fz14638] at hT
      refine lv_if_eq (tgt := 42) hx hb dX13_readSide_35 (by decide) (fun c14639 => ?_) (fun c14639 => ?_)
      · have w14640 := cv_eq (rfl : z14638.toInt = z14638.toInt) (by decide : (0 : Int32).toInt = 0) c14639
        refine lv_aload_n hx hb dX13_readSide_42 rfl (lv_at hl 0 rfl) ?_
        refine m_ldcKw X 75 rfl dX13_readSide_43 ?_
        refine t_cVi (n := 1) (C := RX13) (T := TX13) (N := 37) (As := [.ref (G.2 (100 + 75))]) (rest := []) X hT (km9_X13_isWord l G tag L F hT.2.2.2 p0 75 x3 m0 g0 (by decide) (by omega) pf3) m0 g0 rfl rfl qw_535 qw_536 qw_537 qw_5 qw_538 ⟨rfl, by decide +kernel, by decide +kernel, by decide +kernel⟩ ⟨Nat.le_of_ble_eq_true rfl, Nat.le_of_ble_eq_true rfl⟩ hl rfl rfl (Nat.le_of_ble_eq_true rfl) dX13_readSide_46 ⟨Nat.le_of_ble_eq_true rfl, Nat.le_of_ble_eq_true rfl⟩ (fun z14641 F9 H locs hT hz14641 => ?_)
        obtain ⟨fz14641, hz14641, xz14641_0⟩ := hz14641
        rw [fz14641] at hT
        refine lv_if_eq (tgt := 56) hx hb dX13_readSide_49 (by decide) (fun c14642 => ?_) (fun c14642 => ?_)
        · have w14643 := cv_eq (rfl : z14641.toInt = z14641.toInt) (by decide : (0 : Int32).toInt = 0) c14642
          refine lv_iconst (v := (-1)) hx hb dX13_readSide_56 (by decide) ?_
          have k14644 : ((-1) : Int32).toInt = (-1) := by decide
          exact K57 (-1) x3 x4 x5 _ _ _ _ (by decide) (by omega) (by omega) (by omega) hT hfr pf0 pf1 pf2 pf3 pf4 pf5 hstk hspt hkf (lv_sub hl [0] rfl)
        · have w14645 := cv_ne (rfl : z14641.toInt = z14641.toInt) (by decide : (0 : Int32).toInt = 0) c14642
          refine lv_iconst (v := 3) hx hb dX13_readSide_52 (by decide) ?_
          refine lv_goto (tgt := 57) hx hb dX13_readSide_53 (by decide) ?_
          have k14646 : (3 : Int32).toInt = 3 := by decide
          exact K57 3 x3 x4 x5 _ _ _ _ (by decide) (by omega) (by omega) (by omega) hT hfr pf0 pf1 pf2 pf3 pf4 pf5 hstk hspt hkf (lv_sub hl [0] rfl)
      · have w14647 := cv_ne (rfl : z14638.toInt = z14638.toInt) (by decide : (0 : Int32).toInt = 0) c14639
        refine lv_iconst (v := 2) hx hb dX13_readSide_38 (by decide) ?_
        refine lv_goto (tgt := 57) hx hb dX13_readSide_39 (by decide) ?_
        have k14648 : (2 : Int32).toInt = 2 := by decide
        exact K57 2 x3 x4 x5 _ _ _ _ (by decide) (by omega) (by omega) (by omega) hT hfr pf0 pf1 pf2 pf3 pf4 pf5 hstk hspt hkf (lv_sub hl [0] rfl)
    · have w14649 := cv_ne (rfl : z14635.toInt = z14635.toInt) (by decide : (0 : Int32).toInt = 0) c14636
      refine lv_iconst (v := 1) hx hb dX13_readSide_24 (by decide) ?_
      refine lv_goto (tgt := 57) hx hb dX13_readSide_25 (by decide) ?_
      have k14650 : (1 : Int32).toInt = 1 := by decide
      exact K57 1 x3 x4 x5 _ _ _ _ (by decide) (by omega) (by omega) (by omega) hT hfr pf0 pf1 pf2 pf3 pf4 pf5 hstk hspt hkf (lv_sub hl [0] rfl)
  · have w14651 := cv_ne (rfl : z14632.toInt = z14632.toInt) (by decide : (0 : Int32).toInt = 0) c14633
    refine lv_iconst (v := 0) hx hb dX13_readSide_10 (by decide) ?_
    refine lv_goto (tgt := 57) hx hb dX13_readSide_11 (by decide) ?_
    have k14652 : (0 : Int32).toInt = 0 := by decide
    exact K57 0 x3 x4 x5 _ _ _ _ (by decide) (by omega) (by omega) (by omega) hT hfr pf0 pf1 pf2 pf3 pf4 pf5 hstk hspt hkf (lv_sub hl [0] rfl)
set_option maxHeartbeats 4000000 in
set_option maxRecDepth 100000 in
theorem km38_X13_bounded (l : Launch) (G : KG) (tag : Nat → Nat) (L : List Nat) (Fo : Nat → va_E) (ho : okT G ttC tag L Fo) (p0 : Nat) (p1 : Int32) (p2 : Int32) (x0 : Nat) (x1 : Nat) (x2 : Nat) (x3 : Int32) (x4 : Int32) (x5 : Int32) (m0 : p0 ∈ L) (g0 : tag p0 = 46) (h1 : 0 ≤ p1.toInt ∧ p1.toInt ≤ 0) (h2 : 0 ≤ p2.toInt ∧ p2.toInt ≤ 12) (mx0 : x0 ∈ L) (gx0 : tag x0 = 44) (pf0 : fld Fo p0 4 = .ref x0) (mx1 : x1 ∈ L) (gx1 : tag x1 = 35) (pf1 : fld Fo x0 28 = .ref x1) (mx2 : x2 ∈ L) (gx2 : tag x2 = 36) (pf2 : fld Fo x0 29 = .ref x2) (hx3 : 0 ≤ x3.toInt ∧ x3.toInt ≤ 5) (pf3 : fld Fo p0 9 = .int x3) (hx4 : 0 ≤ x4.toInt ∧ x4.toInt ≤ 1000) (pf4 : fld Fo p0 8 = .int x4) (hx5 : 0 ≤ x5.toInt ∧ x5.toInt ≤ 7) (pf5 : fld Fo p0 13 = .int x5) (hkf : KF x3 x5) : TMi l yX13_bounded cX13_bounded 3 (some .int) { frames := 1, cells := 0, slots := 0, locals := 22 } G ttC tag L Fo [.ref p0, .int p1, .int p2] (fun r F1 => (0 ≤ r.toInt ∧ r.toInt ≤ 12) ∧ ((∀ b j : Nat, (tag b ≠ 46 ∨ j ≠ 9) → (tag b ≠ 46 ∨ j ≠ 13) → (tag b ≠ 46 ∨ j ≠ 14) → fld F1 b j = fld Fo b j) ∧ (∀ b j : Nat, elm F1 b j = elm Fo b j)) ∧ (∃ so sp fa : Int32, fld F1 p0 9 = .int so ∧ fld F1 p0 8 = .int sp ∧ fld F1 p0 13 = .int fa ∧ (0 ≤ so.toInt ∧ so.toInt ≤ 5) ∧ (0 ≤ sp.toInt ∧ sp.toInt ≤ 1000) ∧ (0 ≤ fa.toInt ∧ fa.toInt ≤ 7) ∧ STK x3 so ∧ SPT x3 x4 so sp ∧ KF so fa)) := by
  refine t_bodyi (y := yX13_bounded) (cd := cX13_bounded) (mL := 3) (rt := (some .int)) (rm := { frames := 1, cells := 0, slots := 0, locals := 22 }) (av := [.ref p0, .int p1, .int p2]) (by decide) (Nat.le_of_ble_eq_true rfl) ho ?_
  intro p e s m args below meth c ls A Q hQ X hT hl
  have hx := X.1.1
  have hb := X.1.2.1
  have hl : lv_has ls 3 [(0, .ref p0), (1, .int p1), (2, .int p2)] := hl
  obtain ⟨F, hFo⟩ : ∃ F : Nat → va_E, F = Fo := ⟨_, rfl⟩
  rw [← hFo] at hT pf0 pf1 pf2 pf3 pf4 pf5
  have hfr : (∀ b j : Nat, (tag b ≠ 46 ∨ j ≠ 9) → (tag b ≠ 46 ∨ j ≠ 13) → (tag b ≠ 46 ∨ j ≠ 14) → fld F b j = fld Fo b j) ∧ (∀ b j : Nat, elm F b j = elm Fo b j) := by
    rw [hFo]
    exact ⟨by intros; rfl, by intros; rfl⟩
  have hstk : STK x3 x3 := STK.rf
  have hspt : SPT x3 x4 x3 x4 := SPT.rf
  refine lv_aload_n hx hb dX13_bounded_0 rfl (lv_at hl 0 rfl) ?_
  refine t_get (C := RX13) (T := TX13) (N := 37) X hT m0 g0 rfl rfl 9 (by decide) qw_478 inlX13 rfl dX13_bounded_1 (fun v14948 hv14948 ov14948 => ?_)
  obtain rfl : v14948 = .int x3 := hv14948.symm.trans pf3
  refine lv_iconst (v := 3) hx hb dX13_bounded_4 (by decide) ?_
  refine lv_icmp_eq (tgt := 16) hx hb dX13_bounded_5 (by decide) (fun c14949 => ?_) (fun c14949 => ?_)
  · have w14950 := cv_eq (rfl : x3.toInt = x3.toInt) (by decide : (3 : Int32).toInt = 3) c14949
    refine lv_aload_n hx hb dX13_bounded_16 rfl (lv_at hl 0 rfl) ?_
    refine t_get (C := RX13) (T := TX13) (N := 37) X hT m0 g0 rfl rfl 12 (by decide) qw_516 inlX13 rfl dX13_bounded_17 (fun v14951 hv14951 ov14951 => ?_)
    obtain ⟨z14952, rfl, rz14952⟩ := okV_i ov14951
    refine lv_iload_n hx hb dX13_bounded_20 rfl (lv_at hl 1 rfl) ?_
    refine lv_iload_n hx hb dX13_bounded_21 rfl (lv_at hl 2 rfl) ?_
    refine t_cSi (n := 3) (As := [.int z14952, .int p1, .int p2]) (rest := []) X hT (km19_X13_within l G tag L F hT.2.2.2 z14952 p1 p2 ) qw_568 qw_569 qw_5 qw_570 ⟨by decide +kernel, by decide +kernel, by decide +kernel⟩ ⟨Nat.le_of_ble_eq_true rfl, Nat.le_of_ble_eq_true rfl⟩ hl rfl rfl (Nat.le_of_ble_eq_true rfl) dX13_bounded_22 ⟨Nat.le_of_ble_eq_true rfl, Nat.le_of_ble_eq_true rfl⟩ (fun z14953 F9 H locs hT hz14953 => ?_)
    obtain ⟨fz14953, hz14953, xz14953_0⟩ := hz14953
    rw [fz14953] at hT
    refine lv_if_ne (tgt := 33) hx hb dX13_bounded_25 (by decide) (fun c14954 => ?_) (fun c14954 => ?_)
    · have w14955 := cv_ne (rfl : z14953.toInt = z14953.toInt) (by decide : (0 : Int32).toInt = 0) c14954
      have w14956 := xz14953_0 (by omega)
      refine lv_aload_n hx hb dX13_bounded_33 rfl (lv_at hl 0 rfl) ?_
      refine t_get (C := RX13) (T := TX13) (N := 37) X hT m0 g0 rfl rfl 9 (by decide) qw_478 inlX13 rfl dX13_bounded_34 (fun v14957 hv14957 ov14957 => ?_)
      obtain rfl : v14957 = .int x3 := hv14957.symm.trans pf3
      refine lv_iconst (v := 5) hx hb dX13_bounded_37 (by decide) ?_
      refine lv_icmp_ne (tgt := 45) hx hb dX13_bounded_38 (by decide) (fun c14958 => ?_) (fun c14958 => ?_)
      · have w14959 := cv_ne (rfl : x3.toInt = x3.toInt) (by decide : (5 : Int32).toInt = 5) c14958
        refine lv_aload_n hx hb dX13_bounded_45 rfl (lv_at hl 0 rfl) ?_
        refine t_get (C := RX13) (T := TX13) (N := 37) X hT m0 g0 rfl rfl 12 (by decide) qw_516 inlX13 rfl dX13_bounded_46 (fun v14960 hv14960 ov14960 => ?_)
        obtain rfl : v14960 = .int z14952 := hv14960.symm.trans hv14951
        exact t_iret hQ X hT (⟨(by omega), hfr, ⟨x3, x4, x5, pf3, pf4, pf5, (by omega), (by omega), (by omega), hstk, hspt, hkf⟩⟩) (Nat.le_of_ble_eq_true rfl) (Nat.le_of_ble_eq_true rfl) dX13_bounded_49
      · have w14961 := cv_eq (rfl : x3.toInt = x3.toInt) (by decide : (5 : Int32).toInt = 5) c14958
        exfalso
        omega
    · have w14962 := cv_eq (rfl : z14953.toInt = z14953.toInt) (by decide : (0 : Int32).toInt = 0) c14954
      refine lv_aload_n hx hb dX13_bounded_28 rfl (lv_at hl 0 rfl) ?_
      refine lv_iconst (v := 4) hx hb dX13_bounded_29 (by decide) ?_
      refine t_cVv (n := 1) (C := RX13) (T := TX13) (N := 37) (As := [.int 4]) (rest := []) X hT (km10_X13_flaw l G tag L F hT.2.2.2 p0 4 x0 x1 x2 x3 x4 x5 m0 g0 (by decide) mx0 gx0 pf0 mx1 gx1 pf1 mx2 gx2 pf2 (by omega) pf3 (by omega) pf4 (by omega) pf5 hkf) m0 g0 rfl rfl qw_548 qw_549 qw_550 qw_5 qw_551 ⟨rfl, by decide +kernel, by decide +kernel, by decide +kernel⟩ ⟨Nat.le_of_ble_eq_true rfl, Nat.le_of_ble_eq_true rfl⟩ hl rfl rfl (Nat.le_of_ble_eq_true rfl) dX13_bounded_30 ⟨Nat.le_of_ble_eq_true rfl, Nat.le_of_ble_eq_true rfl⟩ (fun F H locs hT hz14963 => ?_)
      obtain ⟨yz14963, ⟨soz14963, spz14963, faz14963, qsoz14963, qspz14963, qfaz14963, rsoz14963, rspz14963, rfaz14963, stz14963, ptz14963, hkf, pxz14963_0⟩⟩ := hz14963
      have pf0 := (yz14963.1 _ 4 (Or.inr (by decide)) (Or.inr (by decide)) (Or.inr (by decide))).trans pf0
      have pf1 := (yz14963.1 _ 28 (Or.inr (by decide)) (Or.inr (by decide)) (Or.inr (by decide))).trans pf1
      have pf2 := (yz14963.1 _ 29 (Or.inr (by decide)) (Or.inr (by decide)) (Or.inr (by decide))).trans pf2
      have pf4 := (yz14963.1 _ 8 (Or.inr (by decide)) (Or.inr (by decide)) (Or.inr (by decide))).trans pf4
      have hv14951 := (yz14963.1 _ 12 (Or.inr (by decide)) (Or.inr (by decide)) (Or.inr (by decide))).trans hv14951
      have hfr : (∀ b j : Nat, (tag b ≠ 46 ∨ j ≠ 9) → (tag b ≠ 46 ∨ j ≠ 13) → (tag b ≠ 46 ∨ j ≠ 14) → fld F b j = fld Fo b j) ∧ (∀ b j : Nat, elm F b j = elm Fo b j) := ⟨fun b j n46_9 n46_13 n46_14 => (yz14963.1 b j n46_9 n46_13 n46_14).trans (hfr.1 b j n46_9 n46_13 n46_14), fun b j  => (yz14963.2 b j ).trans (hfr.2 b j )⟩
      have hstk := STK.tr hstk stz14963
      have hspt := SPT.tr hspt ptz14963
      refine lv_aload_n hx hb dX13_bounded_33 rfl (lv_at hl 0 rfl) ?_
      refine t_get (C := RX13) (T := TX13) (N := 37) X hT m0 g0 rfl rfl 9 (by decide) qw_478 inlX13 rfl dX13_bounded_34 (fun v14964 hv14964 ov14964 => ?_)
      obtain rfl : v14964 = .int soz14963 := hv14964.symm.trans qsoz14963
      refine lv_iconst (v := 5) hx hb dX13_bounded_37 (by decide) ?_
      refine lv_icmp_ne (tgt := 45) hx hb dX13_bounded_38 (by decide) (fun c14965 => ?_) (fun c14965 => ?_)
      · have w14966 := cv_ne (rfl : soz14963.toInt = soz14963.toInt) (by decide : (5 : Int32).toInt = 5) c14965
        exfalso
        omega
      · have w14967 := cv_eq (rfl : soz14963.toInt = soz14963.toInt) (by decide : (5 : Int32).toInt = 5) c14965
        refine lv_iload_n hx hb dX13_bounded_41 rfl (lv_at hl 1 rfl) ?_
        refine lv_goto (tgt := 49) hx hb dX13_bounded_42 (by decide) ?_
        exact t_iret hQ X hT (⟨(by omega), hfr, ⟨soz14963, spz14963, faz14963, qsoz14963, qspz14963, qfaz14963, (by omega), (by omega), (by omega), hstk, hspt, hkf⟩⟩) (Nat.le_of_ble_eq_true rfl) (Nat.le_of_ble_eq_true rfl) dX13_bounded_49
  · have w14968 := cv_ne (rfl : x3.toInt = x3.toInt) (by decide : (3 : Int32).toInt = 3) c14949
    refine lv_aload_n hx hb dX13_bounded_8 rfl (lv_at hl 0 rfl) ?_
    refine lv_iconst (v := 1) hx hb dX13_bounded_9 (by decide) ?_
    refine t_cVv (n := 1) (C := RX13) (T := TX13) (N := 37) (As := [.int 1]) (rest := []) X hT (km10_X13_flaw l G tag L F hT.2.2.2 p0 1 x0 x1 x2 x3 x4 x5 m0 g0 (by decide) mx0 gx0 pf0 mx1 gx1 pf1 mx2 gx2 pf2 (by omega) pf3 (by omega) pf4 (by omega) pf5 hkf) m0 g0 rfl rfl qw_548 qw_549 qw_550 qw_5 qw_551 ⟨rfl, by decide +kernel, by decide +kernel, by decide +kernel⟩ ⟨Nat.le_of_ble_eq_true rfl, Nat.le_of_ble_eq_true rfl⟩ hl rfl rfl (Nat.le_of_ble_eq_true rfl) dX13_bounded_10 ⟨Nat.le_of_ble_eq_true rfl, Nat.le_of_ble_eq_true rfl⟩ (fun F H locs hT hz14969 => ?_)
    obtain ⟨yz14969, ⟨soz14969, spz14969, faz14969, qsoz14969, qspz14969, qfaz14969, rsoz14969, rspz14969, rfaz14969, stz14969, ptz14969, hkf, pxz14969_0⟩⟩ := hz14969
    have pf0 := (yz14969.1 _ 4 (Or.inr (by decide)) (Or.inr (by decide)) (Or.inr (by decide))).trans pf0
    have pf1 := (yz14969.1 _ 28 (Or.inr (by decide)) (Or.inr (by decide)) (Or.inr (by decide))).trans pf1
    have pf2 := (yz14969.1 _ 29 (Or.inr (by decide)) (Or.inr (by decide)) (Or.inr (by decide))).trans pf2
    have pf4 := (yz14969.1 _ 8 (Or.inr (by decide)) (Or.inr (by decide)) (Or.inr (by decide))).trans pf4
    have hfr : (∀ b j : Nat, (tag b ≠ 46 ∨ j ≠ 9) → (tag b ≠ 46 ∨ j ≠ 13) → (tag b ≠ 46 ∨ j ≠ 14) → fld F b j = fld Fo b j) ∧ (∀ b j : Nat, elm F b j = elm Fo b j) := ⟨fun b j n46_9 n46_13 n46_14 => (yz14969.1 b j n46_9 n46_13 n46_14).trans (hfr.1 b j n46_9 n46_13 n46_14), fun b j  => (yz14969.2 b j ).trans (hfr.2 b j )⟩
    have hstk := STK.tr hstk stz14969
    have hspt := SPT.tr hspt ptz14969
    refine lv_goto (tgt := 33) hx hb dX13_bounded_13 (by decide) ?_
    refine lv_aload_n hx hb dX13_bounded_33 rfl (lv_at hl 0 rfl) ?_
    refine t_get (C := RX13) (T := TX13) (N := 37) X hT m0 g0 rfl rfl 9 (by decide) qw_478 inlX13 rfl dX13_bounded_34 (fun v14970 hv14970 ov14970 => ?_)
    obtain rfl : v14970 = .int soz14969 := hv14970.symm.trans qsoz14969
    refine lv_iconst (v := 5) hx hb dX13_bounded_37 (by decide) ?_
    refine lv_icmp_ne (tgt := 45) hx hb dX13_bounded_38 (by decide) (fun c14971 => ?_) (fun c14971 => ?_)
    · have w14972 := cv_ne (rfl : soz14969.toInt = soz14969.toInt) (by decide : (5 : Int32).toInt = 5) c14971
      exfalso
      omega
    · have w14973 := cv_eq (rfl : soz14969.toInt = soz14969.toInt) (by decide : (5 : Int32).toInt = 5) c14971
      refine lv_iload_n hx hb dX13_bounded_41 rfl (lv_at hl 1 rfl) ?_
      refine lv_goto (tgt := 49) hx hb dX13_bounded_42 (by decide) ?_
      exact t_iret hQ X hT (⟨(by omega), hfr, ⟨soz14969, spz14969, faz14969, qsoz14969, qspz14969, qfaz14969, (by omega), (by omega), (by omega), hstk, hspt, hkf⟩⟩) (Nat.le_of_ble_eq_true rfl) (Nat.le_of_ble_eq_true rfl) dX13_bounded_49
set_option maxHeartbeats 4000000 in
set_option maxRecDepth 100000 in
theorem km39_X13_readWhole (l : Launch) (G : KG) (tag : Nat → Nat) (L : List Nat) (Fo : Nat → va_E) (ho : okT G ttC tag L Fo) (p0 : Nat) (p1 : Int32) (p2 : Int32) (x0 : Nat) (x1 : Nat) (x2 : Nat) (x3 : Int32) (x4 : Int32) (x5 : Int32) (m0 : p0 ∈ L) (g0 : tag p0 = 46) (h1 : 0 ≤ p1.toInt ∧ p1.toInt ≤ 0) (h2 : 0 ≤ p2.toInt ∧ p2.toInt ≤ 12) (mx0 : x0 ∈ L) (gx0 : tag x0 = 44) (pf0 : fld Fo p0 4 = .ref x0) (mx1 : x1 ∈ L) (gx1 : tag x1 = 35) (pf1 : fld Fo x0 28 = .ref x1) (mx2 : x2 ∈ L) (gx2 : tag x2 = 36) (pf2 : fld Fo x0 29 = .ref x2) (hx3 : 0 ≤ x3.toInt ∧ x3.toInt ≤ 5) (pf3 : fld Fo p0 9 = .int x3) (hx4 : 0 ≤ x4.toInt ∧ x4.toInt ≤ 1000) (pf4 : fld Fo p0 8 = .int x4) (hx5 : 0 ≤ x5.toInt ∧ x5.toInt ≤ 7) (pf5 : fld Fo p0 13 = .int x5) (hkf : KF x3 x5) : TMi l yX13_readWhole cX13_readWhole 4 (some .int) { frames := 2, cells := 0, slots := 0, locals := 44 } G ttC tag L Fo [.ref p0, .int p1, .int p2] (fun r F1 => (0 ≤ r.toInt ∧ r.toInt ≤ 12) ∧ ((∀ b j : Nat, (tag b ≠ 46 ∨ j ≠ 8) → (tag b ≠ 46 ∨ j ≠ 9) → (tag b ≠ 46 ∨ j ≠ 10) → (tag b ≠ 46 ∨ j ≠ 11) → (tag b ≠ 46 ∨ j ≠ 12) → (tag b ≠ 46 ∨ j ≠ 13) → (tag b ≠ 46 ∨ j ≠ 14) → (tag b ≠ 46 ∨ j ≠ 15) → fld F1 b j = fld Fo b j) ∧ (∀ b j : Nat, elm F1 b j = elm Fo b j)) ∧ (∃ so sp fa : Int32, fld F1 p0 9 = .int so ∧ fld F1 p0 8 = .int sp ∧ fld F1 p0 13 = .int fa ∧ (0 ≤ so.toInt ∧ so.toInt ≤ 5) ∧ (0 ≤ sp.toInt ∧ sp.toInt ≤ 1000) ∧ (0 ≤ fa.toInt ∧ fa.toInt ≤ 7) ∧ STK x3 so ∧ SPT x3 x4 so sp ∧ KF so fa)) := by
  refine t_bodyi (y := yX13_readWhole) (cd := cX13_readWhole) (mL := 4) (rt := (some .int)) (rm := { frames := 2, cells := 0, slots := 0, locals := 44 }) (av := [.ref p0, .int p1, .int p2]) (by decide) (Nat.le_of_ble_eq_true rfl) ho ?_
  intro p e s m args below meth c ls A Q hQ X hT hl
  have hx := X.1.1
  have hb := X.1.2.1
  have hl : lv_has ls 4 [(0, .ref p0), (1, .int p1), (2, .int p2)] := hl
  obtain ⟨F, hFo⟩ : ∃ F : Nat → va_E, F = Fo := ⟨_, rfl⟩
  rw [← hFo] at hT pf0 pf1 pf2 pf3 pf4 pf5
  have hfr : (∀ b j : Nat, (tag b ≠ 46 ∨ j ≠ 8) → (tag b ≠ 46 ∨ j ≠ 9) → (tag b ≠ 46 ∨ j ≠ 10) → (tag b ≠ 46 ∨ j ≠ 11) → (tag b ≠ 46 ∨ j ≠ 12) → (tag b ≠ 46 ∨ j ≠ 13) → (tag b ≠ 46 ∨ j ≠ 14) → (tag b ≠ 46 ∨ j ≠ 15) → fld F b j = fld Fo b j) ∧ (∀ b j : Nat, elm F b j = elm Fo b j) := by
    rw [hFo]
    exact ⟨by intros; rfl, by intros; rfl⟩
  have hstk : STK x3 x3 := STK.rf
  have hspt : SPT x3 x4 x3 x4 := SPT.rf
  refine lv_aload_n hx hb dX13_readWhole_0 rfl (lv_at hl 0 rfl) ?_
  refine lv_iload_n hx hb dX13_readWhole_1 rfl (lv_at hl 1 rfl) ?_
  refine lv_iload_n hx hb dX13_readWhole_2 rfl (lv_at hl 2 rfl) ?_
  refine t_cVi (n := 2) (C := RX13) (T := TX13) (N := 37) (As := [.int p1, .int p2]) (rest := []) X hT (km38_X13_bounded l G tag L F hT.2.2.2 p0 p1 p2 x0 x1 x2 x3 x4 x5 m0 g0 (by omega) (by omega) mx0 gx0 pf0 mx1 gx1 pf1 mx2 gx2 pf2 (by omega) pf3 (by omega) pf4 (by omega) pf5 hkf) m0 g0 rfl rfl qw_564 qw_565 qw_566 qw_5 qw_567 ⟨rfl, by decide +kernel, by decide +kernel, by decide +kernel⟩ ⟨Nat.le_of_ble_eq_true rfl, Nat.le_of_ble_eq_true rfl⟩ hl rfl rfl (Nat.le_of_ble_eq_true rfl) dX13_readWhole_3 ⟨Nat.le_of_ble_eq_true rfl, Nat.le_of_ble_eq_true rfl⟩ (fun z14996 F H locs hT hz14996 => ?_)
  obtain ⟨hz14996, yz14996, ⟨soz14996, spz14996, faz14996, qsoz14996, qspz14996, qfaz14996, rsoz14996, rspz14996, rfaz14996, stz14996, ptz14996, hkf⟩⟩ := hz14996
  have pf0 := (yz14996.1 _ 4 (Or.inr (by decide)) (Or.inr (by decide)) (Or.inr (by decide))).trans pf0
  have pf1 := (yz14996.1 _ 28 (Or.inr (by decide)) (Or.inr (by decide)) (Or.inr (by decide))).trans pf1
  have pf2 := (yz14996.1 _ 29 (Or.inr (by decide)) (Or.inr (by decide)) (Or.inr (by decide))).trans pf2
  have pf4 := (yz14996.1 _ 8 (Or.inr (by decide)) (Or.inr (by decide)) (Or.inr (by decide))).trans pf4
  have hfr : (∀ b j : Nat, (tag b ≠ 46 ∨ j ≠ 8) → (tag b ≠ 46 ∨ j ≠ 9) → (tag b ≠ 46 ∨ j ≠ 10) → (tag b ≠ 46 ∨ j ≠ 11) → (tag b ≠ 46 ∨ j ≠ 12) → (tag b ≠ 46 ∨ j ≠ 13) → (tag b ≠ 46 ∨ j ≠ 14) → (tag b ≠ 46 ∨ j ≠ 15) → fld F b j = fld Fo b j) ∧ (∀ b j : Nat, elm F b j = elm Fo b j) := ⟨fun b j n46_8 n46_9 n46_10 n46_11 n46_12 n46_13 n46_14 n46_15 => (yz14996.1 b j n46_9 n46_13 n46_14).trans (hfr.1 b j n46_8 n46_9 n46_10 n46_11 n46_12 n46_13 n46_14 n46_15), fun b j  => (yz14996.2 b j ).trans (hfr.2 b j )⟩
  have hstk := STK.tr hstk stz14996
  have hspt := SPT.tr hspt ptz14996
  refine lv_istore_n (lv' := [(3, .int z14996), (0, .ref p0), (1, .int p1), (2, .int p2)]) hx hb dX13_readWhole_6 rfl hl (by decide) rfl (fun ls hl => ?_)
  refine lv_aload_n hx hb dX13_readWhole_7 rfl (lv_at hl 1 rfl) ?_
  refine t_cVv (n := 0) (C := RX13) (T := TX13) (N := 37) (As := []) (rest := []) X hT (km14_X13_goesOn l G tag L F hT.2.2.2 p0 x0 x1 x2 soz14996 spz14996 faz14996 m0 g0 mx0 gx0 pf0 mx1 gx1 pf1 mx2 gx2 pf2 (by omega) qsoz14996 (by omega) qspz14996 (by omega) qfaz14996 hkf) m0 g0 rfl rfl qw_508 qw_509 qw_510 qw_5 qw_511 ⟨rfl, by decide +kernel, by decide +kernel, by decide +kernel⟩ ⟨Nat.le_of_ble_eq_true rfl, Nat.le_of_ble_eq_true rfl⟩ hl rfl rfl (Nat.le_of_ble_eq_true rfl) dX13_readWhole_8 ⟨Nat.le_of_ble_eq_true rfl, Nat.le_of_ble_eq_true rfl⟩ (fun F H locs hT hz14997 => ?_)
  obtain ⟨yz14997, ⟨soz14997, spz14997, faz14997, qsoz14997, qspz14997, qfaz14997, rsoz14997, rspz14997, rfaz14997, stz14997, ptz14997, hkf⟩⟩ := hz14997
  have pf0 := (yz14997.1 _ 4 (Or.inr (by decide)) (Or.inr (by decide)) (Or.inr (by decide)) (Or.inr (by decide)) (Or.inr (by decide)) (Or.inr (by decide))).trans pf0
  have pf1 := (yz14997.1 _ 28 (Or.inr (by decide)) (Or.inr (by decide)) (Or.inr (by decide)) (Or.inr (by decide)) (Or.inr (by decide)) (Or.inr (by decide))).trans pf1
  have pf2 := (yz14997.1 _ 29 (Or.inr (by decide)) (Or.inr (by decide)) (Or.inr (by decide)) (Or.inr (by decide)) (Or.inr (by decide)) (Or.inr (by decide))).trans pf2
  have qfaz14996 := (yz14997.1 _ 13 (Or.inr (by decide)) (Or.inr (by decide)) (Or.inr (by decide)) (Or.inr (by decide)) (Or.inr (by decide)) (Or.inr (by decide))).trans qfaz14996
  have hfr : (∀ b j : Nat, (tag b ≠ 46 ∨ j ≠ 8) → (tag b ≠ 46 ∨ j ≠ 9) → (tag b ≠ 46 ∨ j ≠ 10) → (tag b ≠ 46 ∨ j ≠ 11) → (tag b ≠ 46 ∨ j ≠ 12) → (tag b ≠ 46 ∨ j ≠ 13) → (tag b ≠ 46 ∨ j ≠ 14) → (tag b ≠ 46 ∨ j ≠ 15) → fld F b j = fld Fo b j) ∧ (∀ b j : Nat, elm F b j = elm Fo b j) := ⟨fun b j n46_8 n46_9 n46_10 n46_11 n46_12 n46_13 n46_14 n46_15 => (yz14997.1 b j n46_8 n46_9 n46_10 n46_11 n46_12 n46_15).trans (hfr.1 b j n46_8 n46_9 n46_10 n46_11 n46_12 n46_13 n46_14 n46_15), fun b j  => (yz14997.2 b j ).trans (hfr.2 b j )⟩
  have hstk := STK.tr hstk stz14997
  have hspt := SPT.tr hspt ptz14997
  refine lv_iload_n hx hb dX13_readWhole_11 rfl (lv_at hl 0 rfl) ?_
  exact t_iret hQ X hT (⟨(by omega), hfr, ⟨soz14997, spz14997, faz14997, qsoz14997, qspz14997, qfaz14997, (by omega), (by omega), (by omega), hstk, hspt, hkf⟩⟩) (Nat.le_of_ble_eq_true rfl) (Nat.le_of_ble_eq_true rfl) dX13_readWhole_12
