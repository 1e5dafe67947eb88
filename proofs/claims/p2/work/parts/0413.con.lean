set_option maxHeartbeats 4000000 in
set_option maxRecDepth 100000 in
theorem km69_X13_readWater (l : Launch) (G : KG) (tag : Nat → Nat) (L : List Nat) (Fo : Nat → va_E) (ho : okT G ttC tag L Fo) (p0 : Nat) (x0 : Nat) (x1 : Nat) (x2 : Nat) (x3 : Int32) (x4 : Int32) (x5 : Int32) (m0 : p0 ∈ L) (g0 : tag p0 = 46) (mx0 : x0 ∈ L) (gx0 : tag x0 = 44) (pf0 : fld Fo p0 4 = .ref x0) (mx1 : x1 ∈ L) (gx1 : tag x1 = 35) (pf1 : fld Fo x0 28 = .ref x1) (mx2 : x2 ∈ L) (gx2 : tag x2 = 36) (pf2 : fld Fo x0 29 = .ref x2) (hx3 : 0 ≤ x3.toInt ∧ x3.toInt ≤ 5) (pf3 : fld Fo p0 9 = .int x3) (hx4 : 0 ≤ x4.toInt ∧ x4.toInt ≤ 1000) (pf4 : fld Fo p0 8 = .int x4) (hx5 : 0 ≤ x5.toInt ∧ x5.toInt ≤ 7) (pf5 : fld Fo p0 13 = .int x5) (hkf : KF x3 x5) : TMv l yX13_readWater cX13_readWater 2 { frames := 4, cells := 0, slots := 0, locals := 88 } G ttC tag L Fo [.ref p0] (fun F1 => ((∀ b j : Nat, (tag b ≠ 44 ∨ j ≠ 6) → (tag b ≠ 46 ∨ j ≠ 8) → (tag b ≠ 46 ∨ j ≠ 9) → (tag b ≠ 46 ∨ j ≠ 10) → (tag b ≠ 46 ∨ j ≠ 11) → (tag b ≠ 46 ∨ j ≠ 12) → (tag b ≠ 46 ∨ j ≠ 13) → (tag b ≠ 46 ∨ j ≠ 14) → (tag b ≠ 46 ∨ j ≠ 15) → fld F1 b j = fld Fo b j) ∧ (∀ b j : Nat, tag b ≠ 28 → elm F1 b j = elm Fo b j)) ∧ (∃ so sp fa : Int32, fld F1 p0 9 = .int so ∧ fld F1 p0 8 = .int sp ∧ fld F1 p0 13 = .int fa ∧ (0 ≤ so.toInt ∧ so.toInt ≤ 5) ∧ (0 ≤ sp.toInt ∧ sp.toInt ≤ 1000) ∧ (0 ≤ fa.toInt ∧ fa.toInt ≤ 7) ∧ STK x3 so ∧ SPT x3 x4 so sp ∧ KF so fa)) := by
  refine t_bodyv (y := yX13_readWater) (cd := cX13_readWater) (mL := 2) (rm := { frames := 4, cells := 0, slots := 0, locals := 88 }) (av := [.ref p0]) (by decide) (Nat.le_of_ble_eq_true rfl) ho ?_
  intro p e s m args below meth c ls A Q hQ X hT hl
  have hx := X.1.1
  have hb := X.1.2.1
  have hl : lv_has ls 2 [(0, .ref p0)] := hl
  obtain ⟨F, hFo⟩ : ∃ F : Nat → va_E, F = Fo := ⟨_, rfl⟩
  rw [← hFo] at hT pf0 pf1 pf2 pf3 pf4 pf5
  have hfr : (∀ b j : Nat, (tag b ≠ 44 ∨ j ≠ 6) → (tag b ≠ 46 ∨ j ≠ 8) → (tag b ≠ 46 ∨ j ≠ 9) → (tag b ≠ 46 ∨ j ≠ 10) → (tag b ≠ 46 ∨ j ≠ 11) → (tag b ≠ 46 ∨ j ≠ 12) → (tag b ≠ 46 ∨ j ≠ 13) → (tag b ≠ 46 ∨ j ≠ 14) → (tag b ≠ 46 ∨ j ≠ 15) → fld F b j = fld Fo b j) ∧ (∀ b j : Nat, tag b ≠ 28 → elm F b j = elm Fo b j) := by
    rw [hFo]
    exact ⟨by intros; rfl, by intros; rfl⟩
  have hstk : STK x3 x3 := STK.rf
  have hspt : SPT x3 x4 x3 x4 := SPT.rf
  have K77 : ∀ (z24406 : Int32) (z24407 : Int32) (z24408 : Int32) (z24409 : Int32) (z24410 : Int32) (z24411 : Int32) (F : Nat → va_E) (H : Heap) (locs : List Loc) (ls : Array Slot), (0 ≤ z24406.toInt ∧ z24406.toInt ≤ 143) → (0 ≤ z24408.toInt ∧ z24408.toInt ≤ 12) → (0 ≤ z24409.toInt ∧ z24409.toInt ≤ 5) → (0 ≤ z24410.toInt ∧ z24410.toInt ≤ 1000) → (0 ≤ z24411.toInt ∧ z24411.toInt ≤ 7) → TH G ttC A s tag L F H locs → ((∀ b j : Nat, (tag b ≠ 44 ∨ j ≠ 6) → (tag b ≠ 46 ∨ j ≠ 8) → (tag b ≠ 46 ∨ j ≠ 9) → (tag b ≠ 46 ∨ j ≠ 10) → (tag b ≠ 46 ∨ j ≠ 11) → (tag b ≠ 46 ∨ j ≠ 12) → (tag b ≠ 46 ∨ j ≠ 13) → (tag b ≠ 46 ∨ j ≠ 14) → (tag b ≠ 46 ∨ j ≠ 15) → fld F b j = fld Fo b j) ∧ (∀ b j : Nat, tag b ≠ 28 → elm F b j = elm Fo b j)) → (fld F p0 4 = .ref x0) → (fld F x0 28 = .ref x1) → (fld F x0 29 = .ref x2) → (fld F x0 6 = .int z24407) → (fld F x0 0 = .int z24408) → (fld F p0 9 = .int z24409) → (fld F p0 8 = .int z24410) → (fld F p0 13 = .int z24411) → (STK x3 z24409) → (SPT x3 x4 z24409 z24410) → (KF z24409 z24411) → lv_has ls 2 [(0, .ref p0), (1, .int z24406)] → W p l e { frames := 4, cells := 0, slots := 0, locals := 88 } s m args below meth c H locs 0 0 Q (F0 m 77 ls []) := by
    intro z24406 z24407 z24408 z24409 z24410 z24411 F H locs ls rz24406 rz24408 rz24409 rz24410 rz24411 hT hfr pf0 pf1 pf2 qz24407 qz24408 qz24409 qz24410 qz24411 hstk hspt hkf hl
    have rz24407 := rg_all z24407
    refine lv_aload_n hx hb dX13_readWater_77 rfl (lv_at hl 0 rfl) ?_
    refine t_cVv (n := 0) (C := RX13) (T := TX13) (N := 37) (As := []) (rest := []) X hT (km14_X13_goesOn l G tag L F hT.2.2.2 p0 x0 x1 x2 z24409 z24410 z24411 m0 g0 mx0 gx0 pf0 mx1 gx1 pf1 mx2 gx2 pf2 (by omega) qz24409 (by omega) qz24410 (by omega) qz24411 hkf) m0 g0 rfl rfl qw_508 qw_509 qw_510 qw_5 qw_511 ⟨rfl, by decide +kernel, by decide +kernel, by decide +kernel⟩ ⟨Nat.le_of_ble_eq_true rfl, Nat.le_of_ble_eq_true rfl⟩ hl rfl rfl (Nat.le_of_ble_eq_true rfl) dX13_readWater_78 ⟨Nat.le_of_ble_eq_true rfl, Nat.le_of_ble_eq_true rfl⟩ (fun F H locs hT hz24412 => ?_)
    obtain ⟨yz24412, ⟨soz24412, spz24412, faz24412, qsoz24412, qspz24412, qfaz24412, rsoz24412, rspz24412, rfaz24412, stz24412, ptz24412, hkf⟩⟩ := hz24412
    have qz24407 := (yz24412.1 _ 6 (Or.inr (by decide)) (Or.inr (by decide)) (Or.inr (by decide)) (Or.inr (by decide)) (Or.inr (by decide)) (Or.inr (by decide))).trans qz24407
    have qz24408 := (yz24412.1 _ 0 (Or.inr (by decide)) (Or.inr (by decide)) (Or.inr (by decide)) (Or.inr (by decide)) (Or.inr (by decide)) (Or.inr (by decide))).trans qz24408
    have qz24411 := (yz24412.1 _ 13 (Or.inr (by decide)) (Or.inr (by decide)) (Or.inr (by decide)) (Or.inr (by decide)) (Or.inr (by decide)) (Or.inr (by decide))).trans qz24411
    have pf0 := (yz24412.1 _ 4 (Or.inr (by decide)) (Or.inr (by decide)) (Or.inr (by decide)) (Or.inr (by decide)) (Or.inr (by decide)) (Or.inr (by decide))).trans pf0
    have pf1 := (yz24412.1 _ 28 (Or.inr (by decide)) (Or.inr (by decide)) (Or.inr (by decide)) (Or.inr (by decide)) (Or.inr (by decide)) (Or.inr (by decide))).trans pf1
    have pf2 := (yz24412.1 _ 29 (Or.inr (by decide)) (Or.inr (by decide)) (Or.inr (by decide)) (Or.inr (by decide)) (Or.inr (by decide)) (Or.inr (by decide))).trans pf2
    have hfr : (∀ b j : Nat, (tag b ≠ 44 ∨ j ≠ 6) → (tag b ≠ 46 ∨ j ≠ 8) → (tag b ≠ 46 ∨ j ≠ 9) → (tag b ≠ 46 ∨ j ≠ 10) → (tag b ≠ 46 ∨ j ≠ 11) → (tag b ≠ 46 ∨ j ≠ 12) → (tag b ≠ 46 ∨ j ≠ 13) → (tag b ≠ 46 ∨ j ≠ 14) → (tag b ≠ 46 ∨ j ≠ 15) → fld F b j = fld Fo b j) ∧ (∀ b j : Nat, tag b ≠ 28 → elm F b j = elm Fo b j) := ⟨fun b j n44_6 n46_8 n46_9 n46_10 n46_11 n46_12 n46_13 n46_14 n46_15 => (yz24412.1 b j n46_8 n46_9 n46_10 n46_11 n46_12 n46_15).trans (hfr.1 b j n44_6 n46_8 n46_9 n46_10 n46_11 n46_12 n46_13 n46_14 n46_15), fun b j a28 => (yz24412.2 b j ).trans (hfr.2 b j a28)⟩
    have hstk := STK.tr hstk stz24412
    have hspt := SPT.tr hspt ptz24412
    refine lv_aload_n hx hb dX13_readWater_81 rfl (lv_at hl 0 rfl) ?_
    refine t_get (C := RX13) (T := TX13) (N := 37) X hT m0 g0 rfl rfl 9 (by decide) qw_478 inlX13 rfl dX13_readWater_82 (fun v24413 hv24413 ov24413 => ?_)
    obtain rfl : v24413 = .int soz24412 := hv24413.symm.trans qsoz24412
    refine lv_iconst (v := 5) hx hb dX13_readWater_85 (by decide) ?_
    refine lv_icmp_ne (tgt := 90) hx hb dX13_readWater_86 (by decide) (fun c24414 => ?_) (fun c24414 => ?_)
    · have w24415 := cv_ne (rfl : soz24412.toInt = soz24412.toInt) (by decide : (5 : Int32).toInt = 5) c24414
      refine lv_aload_n hx hb dX13_readWater_90 rfl (lv_at hl 0 rfl) ?_
      refine t_get (C := RX13) (T := TX13) (N := 37) X hT m0 g0 rfl rfl 4 (by decide) qw_477 inlX13 rfl dX13_readWater_91 (fun v24416 hv24416 ov24416 => ?_)
      obtain rfl : v24416 = .ref x0 := hv24416.symm.trans pf0
      refine t_getN (C := RX12) (T := TX12) (N := 31) X hT mx0 gx0 rfl rfl 15 (by decide) (List.mem_of_getElem? (i := 19) rfl) inlX12 rfl dX13_readWater_94 (fun v24417 hv24417 ov24417 => ?_)
      obtain ⟨b24418, rfl, mb24418, gb24418⟩ := okV_r ov24417
      have gb24418 : tag b24418 = 28 := tg_of gb24418
      refine lv_iload_n hx hb dX13_readWater_97 rfl (lv_at hl 1 rfl) ?_
      refine lv_iconst (v := 1) hx hb dX13_readWater_98 (by decide) ?_
      refine t_zst X hT mb24418 gb24418 rfl (by omega) (show 0 ≤ (vp_nar .boolean 1).toInt ∧ (vp_nar .boolean 1).toInt ≤ 1 from (by decide)) dX13_readWater_99 (fun F H locs hT v24419 h1v24419 h2v24419 => ?_)
      have qz24407 := (h2v24419 _ _).trans qz24407
      have qz24408 := (h2v24419 _ _).trans qz24408
      have qfaz24412 := (h2v24419 _ _).trans qfaz24412
      have pf0 := (h2v24419 _ _).trans pf0
      have pf1 := (h2v24419 _ _).trans pf1
      have pf2 := (h2v24419 _ _).trans pf2
      have qsoz24412 := (h2v24419 _ _).trans qsoz24412
      have qspz24412 := (h2v24419 _ _).trans qspz24412
      have hv24417 := (h2v24419 _ _).trans hv24417
      have hfr : (∀ b j : Nat, (tag b ≠ 44 ∨ j ≠ 6) → (tag b ≠ 46 ∨ j ≠ 8) → (tag b ≠ 46 ∨ j ≠ 9) → (tag b ≠ 46 ∨ j ≠ 10) → (tag b ≠ 46 ∨ j ≠ 11) → (tag b ≠ 46 ∨ j ≠ 12) → (tag b ≠ 46 ∨ j ≠ 13) → (tag b ≠ 46 ∨ j ≠ 14) → (tag b ≠ 46 ∨ j ≠ 15) → fld F b j = fld Fo b j) ∧ (∀ b j : Nat, tag b ≠ 28 → elm F b j = elm Fo b j) := ⟨fun b j n44_6 n46_8 n46_9 n46_10 n46_11 n46_12 n46_13 n46_14 n46_15 => (h2v24419 b j).trans (hfr.1 b j n44_6 n46_8 n46_9 n46_10 n46_11 n46_12 n46_13 n46_14 n46_15), fun b j a28 => (h1v24419 b j (Or.inl (at_ne gb24418 a28))).trans (hfr.2 b j a28)⟩
      refine lv_aload_n hx hb dX13_readWater_100 rfl (lv_at hl 0 rfl) ?_
      refine t_get (C := RX13) (T := TX13) (N := 37) X hT m0 g0 rfl rfl 4 (by decide) qw_477 inlX13 rfl dX13_readWater_101 (fun v24420 hv24420 ov24420 => ?_)
      obtain rfl : v24420 = .ref x0 := hv24420.symm.trans pf0
      refine lv_dup hx hb dX13_readWater_104 rfl ?_
      refine t_getN (C := RX12) (T := TX12) (N := 31) X hT mx0 gx0 rfl rfl 6 (by decide) (List.mem_of_getElem? (i := 10) rfl) inlX12 rfl dX13_readWater_105 (fun v24421 hv24421 ov24421 => ?_)
      obtain rfl : v24421 = .int z24407 := hv24421.symm.trans qz24407
      refine lv_iconst (v := 1) hx hb dX13_readWater_108 (by decide) ?_
      refine lv_iadd hx hb dX13_readWater_109 ?_
      refine lv_topi (fun z24422 ez24422 => ?_)
      have rz24422 := rg_all z24422
      refine t_putN (C := RX12) (T := TX12) (N := 31) (v := .int z24422) X hT mx0 gx0 rfl tyX12 tyX12_ok nmX12 rfl 6 (by decide) (List.mem_of_getElem? (i := 10) rfl) inlX12 rfl (by first | rfl | decide) (by first | rfl | decide) rfl (⟨_, rfl, (show (-2147483648) ≤ (z24422 : Int32).toInt from (by omega)), (show (z24422 : Int32).toInt ≤ 2147483647 from (by omega))⟩) dX13_readWater_110 (fun F H locs hT v24423 h1v24423 h2v24423 => ?_)
      have qz24408 := (h1v24423 _ _ (Or.inr (by decide))).trans qz24408
      have qfaz24412 := (h1v24423 _ _ (Or.inr (by decide))).trans qfaz24412
      have pf0 := (h1v24423 _ _ (Or.inr (by decide))).trans pf0
      have pf1 := (h1v24423 _ _ (Or.inr (by decide))).trans pf1
      have pf2 := (h1v24423 _ _ (Or.inr (by decide))).trans pf2
      have qsoz24412 := (h1v24423 _ _ (Or.inr (by decide))).trans qsoz24412
      have qspz24412 := (h1v24423 _ _ (Or.inr (by decide))).trans qspz24412
      have hv24417 := (h1v24423 _ _ (Or.inr (by decide))).trans hv24417
      have hfr : (∀ b j : Nat, (tag b ≠ 44 ∨ j ≠ 6) → (tag b ≠ 46 ∨ j ≠ 8) → (tag b ≠ 46 ∨ j ≠ 9) → (tag b ≠ 46 ∨ j ≠ 10) → (tag b ≠ 46 ∨ j ≠ 11) → (tag b ≠ 46 ∨ j ≠ 12) → (tag b ≠ 46 ∨ j ≠ 13) → (tag b ≠ 46 ∨ j ≠ 14) → (tag b ≠ 46 ∨ j ≠ 15) → fld F b j = fld Fo b j) ∧ (∀ b j : Nat, tag b ≠ 28 → elm F b j = elm Fo b j) := ⟨fun b j n44_6 n46_8 n46_9 n46_10 n46_11 n46_12 n46_13 n46_14 n46_15 => (h1v24423 b j (fr_ne gx0 n44_6)).trans (hfr.1 b j n44_6 n46_8 n46_9 n46_10 n46_11 n46_12 n46_13 n46_14 n46_15), fun b j a28 => (h2v24423 b j).trans (hfr.2 b j a28)⟩
      exact t_vret hQ X hT ⟨hfr, ⟨soz24412, spz24412, faz24412, qsoz24412, qspz24412, qfaz24412, (by omega), (by omega), (by omega), hstk, hspt, hkf⟩⟩ (Nat.le_of_ble_eq_true rfl) (Nat.le_of_ble_eq_true rfl) dX13_readWater_113
    · have w24424 := cv_eq (rfl : soz24412.toInt = soz24412.toInt) (by decide : (5 : Int32).toInt = 5) c24414
      exact t_vret hQ X hT ⟨hfr, ⟨soz24412, spz24412, faz24412, qsoz24412, qspz24412, qfaz24412, (by omega), (by omega), (by omega), hstk, hspt, hkf⟩⟩ (Nat.le_of_ble_eq_true rfl) (Nat.le_of_ble_eq_true rfl) dX13_readWater_89
  have K43 : ∀ (z24425 : Int32) (z24426 : Int32) (z24427 : Int32) (z24428 : Int32) (z24429 : Int32) (F : Nat → va_E) (H : Heap) (locs : List Loc) (ls : Array Slot), (0 ≤ z24425.toInt ∧ z24425.toInt ≤ 5) → (0 ≤ z24426.toInt ∧ z24426.toInt ≤ 1000) → (0 ≤ z24427.toInt ∧ z24427.toInt ≤ 7) → (0 ≤ z24429.toInt ∧ z24429.toInt ≤ 12) → TH G ttC A s tag L F H locs → ((∀ b j : Nat, (tag b ≠ 44 ∨ j ≠ 6) → (tag b ≠ 46 ∨ j ≠ 8) → (tag b ≠ 46 ∨ j ≠ 9) → (tag b ≠ 46 ∨ j ≠ 10) → (tag b ≠ 46 ∨ j ≠ 11) → (tag b ≠ 46 ∨ j ≠ 12) → (tag b ≠ 46 ∨ j ≠ 13) → (tag b ≠ 46 ∨ j ≠ 14) → (tag b ≠ 46 ∨ j ≠ 15) → fld F b j = fld Fo b j) ∧ (∀ b j : Nat, tag b ≠ 28 → elm F b j = elm Fo b j)) → (fld F p0 4 = .ref x0) → (fld F x0 28 = .ref x1) → (fld F x0 29 = .ref x2) → (fld F p0 9 = .int z24425) → (fld F p0 8 = .int z24426) → (fld F p0 13 = .int z24427) → (fld F x0 6 = .int z24428) → (fld F x0 0 = .int z24429) → (STK x3 z24425) → (SPT x3 x4 z24425 z24426) → (KF z24425 z24427) → lv_has ls 2 [(0, .ref p0)] → W p l e { frames := 4, cells := 0, slots := 0, locals := 88 } s m args below meth c H locs 0 0 Q (F0 m 43 ls []) := by
    intro z24425 z24426 z24427 z24428 z24429 F H locs ls rz24425 rz24426 rz24427 rz24429 hT hfr pf0 pf1 pf2 qz24425 qz24426 qz24427 qz24428 qz24429 hstk hspt hkf hl
    have rz24428 := rg_all z24428
    refine lv_aload_n hx hb dX13_readWater_43 rfl (lv_at hl 0 rfl) ?_
    refine t_cVv (n := 0) (C := RX13) (T := TX13) (N := 37) (As := []) (rest := []) X hT (km14_X13_goesOn l G tag L F hT.2.2.2 p0 x0 x1 x2 z24425 z24426 z24427 m0 g0 mx0 gx0 pf0 mx1 gx1 pf1 mx2 gx2 pf2 (by omega) qz24425 (by omega) qz24426 (by omega) qz24427 hkf) m0 g0 rfl rfl qw_508 qw_509 qw_510 qw_5 qw_511 ⟨rfl, by decide +kernel, by decide +kernel, by decide +kernel⟩ ⟨Nat.le_of_ble_eq_true rfl, Nat.le_of_ble_eq_true rfl⟩ hl rfl rfl (Nat.le_of_ble_eq_true rfl) dX13_readWater_44 ⟨Nat.le_of_ble_eq_true rfl, Nat.le_of_ble_eq_true rfl⟩ (fun F H locs hT hz24430 => ?_)
    obtain ⟨yz24430, ⟨soz24430, spz24430, faz24430, qsoz24430, qspz24430, qfaz24430, rsoz24430, rspz24430, rfaz24430, stz24430, ptz24430, hkf⟩⟩ := hz24430
    have qz24427 := (yz24430.1 _ 13 (Or.inr (by decide)) (Or.inr (by decide)) (Or.inr (by decide)) (Or.inr (by decide)) (Or.inr (by decide)) (Or.inr (by decide))).trans qz24427
    have qz24428 := (yz24430.1 _ 6 (Or.inr (by decide)) (Or.inr (by decide)) (Or.inr (by decide)) (Or.inr (by decide)) (Or.inr (by decide)) (Or.inr (by decide))).trans qz24428
    have qz24429 := (yz24430.1 _ 0 (Or.inr (by decide)) (Or.inr (by decide)) (Or.inr (by decide)) (Or.inr (by decide)) (Or.inr (by decide)) (Or.inr (by decide))).trans qz24429
    have pf0 := (yz24430.1 _ 4 (Or.inr (by decide)) (Or.inr (by decide)) (Or.inr (by decide)) (Or.inr (by decide)) (Or.inr (by decide)) (Or.inr (by decide))).trans pf0
    have pf1 := (yz24430.1 _ 28 (Or.inr (by decide)) (Or.inr (by decide)) (Or.inr (by decide)) (Or.inr (by decide)) (Or.inr (by decide)) (Or.inr (by decide))).trans pf1
    have pf2 := (yz24430.1 _ 29 (Or.inr (by decide)) (Or.inr (by decide)) (Or.inr (by decide)) (Or.inr (by decide)) (Or.inr (by decide)) (Or.inr (by decide))).trans pf2
    have hfr : (∀ b j : Nat, (tag b ≠ 44 ∨ j ≠ 6) → (tag b ≠ 46 ∨ j ≠ 8) → (tag b ≠ 46 ∨ j ≠ 9) → (tag b ≠ 46 ∨ j ≠ 10) → (tag b ≠ 46 ∨ j ≠ 11) → (tag b ≠ 46 ∨ j ≠ 12) → (tag b ≠ 46 ∨ j ≠ 13) → (tag b ≠ 46 ∨ j ≠ 14) → (tag b ≠ 46 ∨ j ≠ 15) → fld F b j = fld Fo b j) ∧ (∀ b j : Nat, tag b ≠ 28 → elm F b j = elm Fo b j) := ⟨fun b j n44_6 n46_8 n46_9 n46_10 n46_11 n46_12 n46_13 n46_14 n46_15 => (yz24430.1 b j n46_8 n46_9 n46_10 n46_11 n46_12 n46_15).trans (hfr.1 b j n44_6 n46_8 n46_9 n46_10 n46_11 n46_12 n46_13 n46_14 n46_15), fun b j a28 => (yz24430.2 b j ).trans (hfr.2 b j a28)⟩
    have hstk := STK.tr hstk stz24430
    have hspt := SPT.tr hspt ptz24430
    refine lv_aload_n hx hb dX13_readWater_47 rfl (lv_at hl 0 rfl) ?_
    refine t_cVi (n := 0) (C := RX13) (T := TX13) (N := 37) (As := []) (rest := []) X hT (km55_X13_knownCell l G tag L F hT.2.2.2 p0 x0 x1 x2 soz24430 spz24430 faz24430 m0 g0 mx0 gx0 pf0 mx1 gx1 pf1 mx2 gx2 pf2 (by omega) qsoz24430 (by omega) qspz24430 (by omega) qfaz24430 hkf) m0 g0 rfl rfl qw_583 qw_584 qw_585 qw_5 qw_586 ⟨rfl, by decide +kernel, by decide +kernel, by decide +kernel⟩ ⟨Nat.le_of_ble_eq_true rfl, Nat.le_of_ble_eq_true rfl⟩ hl rfl rfl (Nat.le_of_ble_eq_true rfl) dX13_readWater_48 ⟨Nat.le_of_ble_eq_true rfl, Nat.le_of_ble_eq_true rfl⟩ (fun z24431 F H locs hT hz24431 => ?_)
    obtain ⟨hz24431, yz24431, ⟨soz24431, spz24431, faz24431, qsoz24431, qspz24431, qfaz24431, rsoz24431, rspz24431, rfaz24431, stz24431, ptz24431, hkf⟩⟩ := hz24431
    have qz24428 := (yz24431.1 _ 6 (Or.inr (by decide)) (Or.inr (by decide)) (Or.inr (by decide)) (Or.inr (by decide)) (Or.inr (by decide)) (Or.inr (by decide)) (Or.inr (by decide)) (Or.inr (by decide))).trans qz24428
    have qz24429 := (yz24431.1 _ 0 (Or.inr (by decide)) (Or.inr (by decide)) (Or.inr (by decide)) (Or.inr (by decide)) (Or.inr (by decide)) (Or.inr (by decide)) (Or.inr (by decide)) (Or.inr (by decide))).trans qz24429
    have pf0 := (yz24431.1 _ 4 (Or.inr (by decide)) (Or.inr (by decide)) (Or.inr (by decide)) (Or.inr (by decide)) (Or.inr (by decide)) (Or.inr (by decide)) (Or.inr (by decide)) (Or.inr (by decide))).trans pf0
    have pf1 := (yz24431.1 _ 28 (Or.inr (by decide)) (Or.inr (by decide)) (Or.inr (by decide)) (Or.inr (by decide)) (Or.inr (by decide)) (Or.inr (by decide)) (Or.inr (by decide)) (Or.inr (by decide))).trans pf1
    have pf2 := (yz24431.1 _ 29 (Or.inr (by decide)) (Or.inr (by decide)) (Or.inr (by decide)) (Or.inr (by decide)) (Or.inr (by decide)) (Or.inr (by decide)) (Or.inr (by decide)) (Or.inr (by decide))).trans pf2
    have hfr : (∀ b j : Nat, (tag b ≠ 44 ∨ j ≠ 6) → (tag b ≠ 46 ∨ j ≠ 8) → (tag b ≠ 46 ∨ j ≠ 9) → (tag b ≠ 46 ∨ j ≠ 10) → (tag b ≠ 46 ∨ j ≠ 11) → (tag b ≠ 46 ∨ j ≠ 12) → (tag b ≠ 46 ∨ j ≠ 13) → (tag b ≠ 46 ∨ j ≠ 14) → (tag b ≠ 46 ∨ j ≠ 15) → fld F b j = fld Fo b j) ∧ (∀ b j : Nat, tag b ≠ 28 → elm F b j = elm Fo b j) := ⟨fun b j n44_6 n46_8 n46_9 n46_10 n46_11 n46_12 n46_13 n46_14 n46_15 => (yz24431.1 b j n46_8 n46_9 n46_10 n46_11 n46_12 n46_13 n46_14 n46_15).trans (hfr.1 b j n44_6 n46_8 n46_9 n46_10 n46_11 n46_12 n46_13 n46_14 n46_15), fun b j a28 => (yz24431.2 b j ).trans (hfr.2 b j a28)⟩
    have hstk := STK.tr hstk stz24431
    have hspt := SPT.tr hspt ptz24431
    refine lv_istore_n (lv' := [(1, .int z24431), (0, .ref p0)]) hx hb dX13_readWater_51 rfl hl (by decide) rfl (fun ls hl => ?_)
    refine lv_aload_n hx hb dX13_readWater_52 rfl (lv_at hl 1 rfl) ?_
    refine t_get (C := RX13) (T := TX13) (N := 37) X hT m0 g0 rfl rfl 9 (by decide) qw_478 inlX13 rfl dX13_readWater_53 (fun v24432 hv24432 ov24432 => ?_)
    obtain rfl : v24432 = .int soz24431 := hv24432.symm.trans qsoz24431
    refine lv_iconst (v := 5) hx hb dX13_readWater_56 (by decide) ?_
    refine lv_icmp_eq (tgt := 77) hx hb dX13_readWater_57 (by decide) (fun c24433 => ?_) (fun c24433 => ?_)
    · have w24434 := cv_eq (rfl : soz24431.toInt = soz24431.toInt) (by decide : (5 : Int32).toInt = 5) c24433
      exact K77 z24431 z24428 z24429 soz24431 spz24431 faz24431 _ _ _ _ (by omega) (by omega) (by omega) (by omega) (by omega) hT hfr pf0 pf1 pf2 qz24428 qz24429 qsoz24431 qspz24431 qfaz24431 hstk hspt hkf (lv_sub hl [1, 0] rfl)
    · have w24435 := cv_ne (rfl : soz24431.toInt = soz24431.toInt) (by decide : (5 : Int32).toInt = 5) c24433
      refine lv_aload_n hx hb dX13_readWater_60 rfl (lv_at hl 1 rfl) ?_
      refine t_get (C := RX13) (T := TX13) (N := 37) X hT m0 g0 rfl rfl 4 (by decide) qw_477 inlX13 rfl dX13_readWater_61 (fun v24436 hv24436 ov24436 => ?_)
      obtain rfl : v24436 = .ref x0 := hv24436.symm.trans pf0
      refine t_getN (C := RX12) (T := TX12) (N := 31) X hT mx0 gx0 rfl rfl 15 (by decide) (List.mem_of_getElem? (i := 19) rfl) inlX12 rfl dX13_readWater_64 (fun v24437 hv24437 ov24437 => ?_)
      obtain ⟨b24438, rfl, mb24438, gb24438⟩ := okV_r ov24437
      have gb24438 : tag b24438 = 28 := tg_of gb24438
      refine lv_iload_n hx hb dX13_readWater_67 rfl (lv_at hl 0 rfl) ?_
      refine t_zld X hT mb24438 gb24438 rfl (by omega) dX13_readWater_68 (fun z24439 vz24439 rz24439 => ?_)
      have rz24439 : 0 ≤ z24439.toInt ∧ z24439.toInt ≤ 1 := rz24439
      refine lv_if_eq (tgt := 77) hx hb dX13_readWater_69 (by decide) (fun c24440 => ?_) (fun c24440 => ?_)
      · have w24441 := cv_eq (rfl : z24439.toInt = z24439.toInt) (by decide : (0 : Int32).toInt = 0) c24440
        exact K77 z24431 z24428 z24429 soz24431 spz24431 faz24431 _ _ _ _ (by omega) (by omega) (by omega) (by omega) (by omega) hT hfr pf0 pf1 pf2 qz24428 qz24429 qsoz24431 qspz24431 qfaz24431 hstk hspt hkf (lv_sub hl [1, 0] rfl)
      · have w24442 := cv_ne (rfl : z24439.toInt = z24439.toInt) (by decide : (0 : Int32).toInt = 0) c24440
        refine lv_aload_n hx hb dX13_readWater_72 rfl (lv_at hl 1 rfl) ?_
        refine lv_iconst (v := 3) hx hb dX13_readWater_73 (by decide) ?_
        refine t_cVv (n := 1) (C := RX13) (T := TX13) (N := 37) (As := [.int 3]) (rest := []) X hT (km10_X13_flaw l G tag L F hT.2.2.2 p0 3 x0 x1 x2 soz24431 spz24431 faz24431 m0 g0 (by decide) mx0 gx0 pf0 mx1 gx1 pf1 mx2 gx2 pf2 (by omega) qsoz24431 (by omega) qspz24431 (by omega) qfaz24431 hkf) m0 g0 rfl rfl qw_548 qw_549 qw_550 qw_5 qw_551 ⟨rfl, by decide +kernel, by decide +kernel, by decide +kernel⟩ ⟨Nat.le_of_ble_eq_true rfl, Nat.le_of_ble_eq_true rfl⟩ hl rfl rfl (Nat.le_of_ble_eq_true rfl) dX13_readWater_74 ⟨Nat.le_of_ble_eq_true rfl, Nat.le_of_ble_eq_true rfl⟩ (fun F H locs hT hz24443 => ?_)
        obtain ⟨yz24443, ⟨soz24443, spz24443, faz24443, qsoz24443, qspz24443, qfaz24443, rsoz24443, rspz24443, rfaz24443, stz24443, ptz24443, hkf, pxz24443_0⟩⟩ := hz24443
        have qz24428 := (yz24443.1 _ 6 (Or.inr (by decide)) (Or.inr (by decide)) (Or.inr (by decide))).trans qz24428
        have qz24429 := (yz24443.1 _ 0 (Or.inr (by decide)) (Or.inr (by decide)) (Or.inr (by decide))).trans qz24429
        have pf0 := (yz24443.1 _ 4 (Or.inr (by decide)) (Or.inr (by decide)) (Or.inr (by decide))).trans pf0
        have pf1 := (yz24443.1 _ 28 (Or.inr (by decide)) (Or.inr (by decide)) (Or.inr (by decide))).trans pf1
        have pf2 := (yz24443.1 _ 29 (Or.inr (by decide)) (Or.inr (by decide)) (Or.inr (by decide))).trans pf2
        have qspz24431 := (yz24443.1 _ 8 (Or.inr (by decide)) (Or.inr (by decide)) (Or.inr (by decide))).trans qspz24431
        have hv24437 := (yz24443.1 _ 15 (Or.inr (by decide)) (Or.inr (by decide)) (Or.inr (by decide))).trans hv24437
        have vz24439 := (yz24443.2 _ _ ).trans vz24439
        have hfr : (∀ b j : Nat, (tag b ≠ 44 ∨ j ≠ 6) → (tag b ≠ 46 ∨ j ≠ 8) → (tag b ≠ 46 ∨ j ≠ 9) → (tag b ≠ 46 ∨ j ≠ 10) → (tag b ≠ 46 ∨ j ≠ 11) → (tag b ≠ 46 ∨ j ≠ 12) → (tag b ≠ 46 ∨ j ≠ 13) → (tag b ≠ 46 ∨ j ≠ 14) → (tag b ≠ 46 ∨ j ≠ 15) → fld F b j = fld Fo b j) ∧ (∀ b j : Nat, tag b ≠ 28 → elm F b j = elm Fo b j) := ⟨fun b j n44_6 n46_8 n46_9 n46_10 n46_11 n46_12 n46_13 n46_14 n46_15 => (yz24443.1 b j n46_9 n46_13 n46_14).trans (hfr.1 b j n44_6 n46_8 n46_9 n46_10 n46_11 n46_12 n46_13 n46_14 n46_15), fun b j a28 => (yz24443.2 b j ).trans (hfr.2 b j a28)⟩
        have hstk := STK.tr hstk stz24443
        have hspt := SPT.tr hspt ptz24443
        exact K77 z24431 z24428 z24429 soz24443 spz24443 faz24443 _ _ _ _ (by omega) (by omega) (by omega) (by omega) (by omega) hT hfr pf0 pf1 pf2 qz24428 qz24429 qsoz24443 qspz24443 qfaz24443 hstk hspt hkf (lv_sub hl [1, 0] rfl)
  have K37 : ∀ (z24444 : Int32) (z24445 : Int32) (z24446 : Int32) (z24447 : Int32) (z24448 : Int32) (F : Nat → va_E) (H : Heap) (locs : List Loc) (ls : Array Slot), (0 ≤ z24444.toInt ∧ z24444.toInt ≤ 5) → (0 ≤ z24445.toInt ∧ z24445.toInt ≤ 1000) → (0 ≤ z24446.toInt ∧ z24446.toInt ≤ 7) → (0 ≤ z24448.toInt ∧ z24448.toInt ≤ 12) → TH G ttC A s tag L F H locs → ((∀ b j : Nat, (tag b ≠ 44 ∨ j ≠ 6) → (tag b ≠ 46 ∨ j ≠ 8) → (tag b ≠ 46 ∨ j ≠ 9) → (tag b ≠ 46 ∨ j ≠ 10) → (tag b ≠ 46 ∨ j ≠ 11) → (tag b ≠ 46 ∨ j ≠ 12) → (tag b ≠ 46 ∨ j ≠ 13) → (tag b ≠ 46 ∨ j ≠ 14) → (tag b ≠ 46 ∨ j ≠ 15) → fld F b j = fld Fo b j) ∧ (∀ b j : Nat, tag b ≠ 28 → elm F b j = elm Fo b j)) → (fld F p0 4 = .ref x0) → (fld F x0 28 = .ref x1) → (fld F x0 29 = .ref x2) → (fld F p0 9 = .int z24444) → (fld F p0 8 = .int z24445) → (fld F p0 13 = .int z24446) → (fld F x0 6 = .int z24447) → (fld F x0 0 = .int z24448) → (STK x3 z24444) → (SPT x3 x4 z24444 z24445) → (KF z24444 z24446) → lv_has ls 2 [(0, .ref p0)] → W p l e { frames := 4, cells := 0, slots := 0, locals := 88 } s m args below meth c H locs 0 0 Q (F0 m 37 ls []) := by
    intro z24444 z24445 z24446 z24447 z24448 F H locs ls rz24444 rz24445 rz24446 rz24448 hT hfr pf0 pf1 pf2 qz24444 qz24445 qz24446 qz24447 qz24448 hstk hspt hkf hl
    have rz24447 := rg_all z24447
    refine lv_aload_n hx hb dX13_readWater_37 rfl (lv_at hl 0 rfl) ?_
    refine lv_bipush (v := 6) hx hb dX13_readWater_38 (by decide) ?_
    refine t_cVv (n := 1) (C := RX13) (T := TX13) (N := 37) (As := [.int 6]) (rest := []) X hT (km10_X13_flaw l G tag L F hT.2.2.2 p0 6 x0 x1 x2 z24444 z24445 z24446 m0 g0 (by decide) mx0 gx0 pf0 mx1 gx1 pf1 mx2 gx2 pf2 (by omega) qz24444 (by omega) qz24445 (by omega) qz24446 hkf) m0 g0 rfl rfl qw_548 qw_549 qw_550 qw_5 qw_551 ⟨rfl, by decide +kernel, by decide +kernel, by decide +kernel⟩ ⟨Nat.le_of_ble_eq_true rfl, Nat.le_of_ble_eq_true rfl⟩ hl rfl rfl (Nat.le_of_ble_eq_true rfl) dX13_readWater_40 ⟨Nat.le_of_ble_eq_true rfl, Nat.le_of_ble_eq_true rfl⟩ (fun F H locs hT hz24449 => ?_)
    obtain ⟨yz24449, ⟨soz24449, spz24449, faz24449, qsoz24449, qspz24449, qfaz24449, rsoz24449, rspz24449, rfaz24449, stz24449, ptz24449, hkf, pxz24449_0⟩⟩ := hz24449
    have qz24445 := (yz24449.1 _ 8 (Or.inr (by decide)) (Or.inr (by decide)) (Or.inr (by decide))).trans qz24445
    have qz24447 := (yz24449.1 _ 6 (Or.inr (by decide)) (Or.inr (by decide)) (Or.inr (by decide))).trans qz24447
    have qz24448 := (yz24449.1 _ 0 (Or.inr (by decide)) (Or.inr (by decide)) (Or.inr (by decide))).trans qz24448
    have pf0 := (yz24449.1 _ 4 (Or.inr (by decide)) (Or.inr (by decide)) (Or.inr (by decide))).trans pf0
    have pf1 := (yz24449.1 _ 28 (Or.inr (by decide)) (Or.inr (by decide)) (Or.inr (by decide))).trans pf1
    have pf2 := (yz24449.1 _ 29 (Or.inr (by decide)) (Or.inr (by decide)) (Or.inr (by decide))).trans pf2
    have hfr : (∀ b j : Nat, (tag b ≠ 44 ∨ j ≠ 6) → (tag b ≠ 46 ∨ j ≠ 8) → (tag b ≠ 46 ∨ j ≠ 9) → (tag b ≠ 46 ∨ j ≠ 10) → (tag b ≠ 46 ∨ j ≠ 11) → (tag b ≠ 46 ∨ j ≠ 12) → (tag b ≠ 46 ∨ j ≠ 13) → (tag b ≠ 46 ∨ j ≠ 14) → (tag b ≠ 46 ∨ j ≠ 15) → fld F b j = fld Fo b j) ∧ (∀ b j : Nat, tag b ≠ 28 → elm F b j = elm Fo b j) := ⟨fun b j n44_6 n46_8 n46_9 n46_10 n46_11 n46_12 n46_13 n46_14 n46_15 => (yz24449.1 b j n46_9 n46_13 n46_14).trans (hfr.1 b j n44_6 n46_8 n46_9 n46_10 n46_11 n46_12 n46_13 n46_14 n46_15), fun b j a28 => (yz24449.2 b j ).trans (hfr.2 b j a28)⟩
    have hstk := STK.tr hstk stz24449
    have hspt := SPT.tr hspt ptz24449
    exact K43 soz24449 spz24449 faz24449 z24447 z24448 _ _ _ _ (by omega) (by omega) (by omega) (by omega) hT hfr pf0 pf1 pf2 qsoz24449 qspz24449 qfaz24449 qz24447 qz24448 hstk hspt hkf (lv_sub hl [0] rfl)
  have K17 : ∀ (z24450 : Int32) (z24451 : Int32) (z24452 : Int32) (z24453 : Int32) (F : Nat → va_E) (H : Heap) (locs : List Loc) (ls : Array Slot), (0 ≤ z24450.toInt ∧ z24450.toInt ≤ 5) → (0 ≤ z24451.toInt ∧ z24451.toInt ≤ 1000) → (0 ≤ z24452.toInt ∧ z24452.toInt ≤ 7) → TH G ttC A s tag L F H locs → ((∀ b j : Nat, (tag b ≠ 44 ∨ j ≠ 6) → (tag b ≠ 46 ∨ j ≠ 8) → (tag b ≠ 46 ∨ j ≠ 9) → (tag b ≠ 46 ∨ j ≠ 10) → (tag b ≠ 46 ∨ j ≠ 11) → (tag b ≠ 46 ∨ j ≠ 12) → (tag b ≠ 46 ∨ j ≠ 13) → (tag b ≠ 46 ∨ j ≠ 14) → (tag b ≠ 46 ∨ j ≠ 15) → fld F b j = fld Fo b j) ∧ (∀ b j : Nat, tag b ≠ 28 → elm F b j = elm Fo b j)) → (fld F p0 4 = .ref x0) → (fld F x0 28 = .ref x1) → (fld F x0 29 = .ref x2) → (fld F p0 9 = .int z24450) → (fld F p0 8 = .int z24451) → (fld F p0 13 = .int z24452) → (fld F x0 6 = .int z24453) → (STK x3 z24450) → (SPT x3 x4 z24450 z24451) → (KF z24450 z24452) → lv_has ls 2 [(0, .ref p0)] → W p l e { frames := 4, cells := 0, slots := 0, locals := 88 } s m args below meth c H locs 0 0 Q (F0 m 17 ls []) := by
    intro z24450 z24451 z24452 z24453 F H locs ls rz24450 rz24451 rz24452 hT hfr pf0 pf1 pf2 qz24450 qz24451 qz24452 qz24453 hstk hspt hkf hl
    have rz24453 := rg_all z24453
    refine lv_aload_n hx hb dX13_readWater_17 rfl (lv_at hl 0 rfl) ?_
    refine t_get (C := RX13) (T := TX13) (N := 37) X hT m0 g0 rfl rfl 4 (by decide) qw_477 inlX13 rfl dX13_readWater_18 (fun v24454 hv24454 ov24454 => ?_)
    obtain rfl : v24454 = .ref x0 := hv24454.symm.trans pf0
    refine t_getN (C := RX12) (T := TX12) (N := 31) X hT mx0 gx0 rfl rfl 0 (by decide) (List.mem_of_getElem? (i := 4) rfl) inlX12 rfl dX13_readWater_21 (fun v24455 hv24455 ov24455 => ?_)
    obtain ⟨z24456, rfl, rz24456⟩ := okV_i ov24455
    refine lv_if_eq (tgt := 37) hx hb dX13_readWater_24 (by decide) (fun c24457 => ?_) (fun c24457 => ?_)
    · have w24458 := cv_eq (rfl : z24456.toInt = z24456.toInt) (by decide : (0 : Int32).toInt = 0) c24457
      exact K37 z24450 z24451 z24452 z24453 z24456 _ _ _ _ (by omega) (by omega) (by omega) (by omega) hT hfr pf0 pf1 pf2 qz24450 qz24451 qz24452 qz24453 hv24455 hstk hspt hkf (lv_sub hl [0] rfl)
    · have w24459 := cv_ne (rfl : z24456.toInt = z24456.toInt) (by decide : (0 : Int32).toInt = 0) c24457
      refine lv_aload_n hx hb dX13_readWater_27 rfl (lv_at hl 0 rfl) ?_
      refine t_get (C := RX13) (T := TX13) (N := 37) X hT m0 g0 rfl rfl 4 (by decide) qw_477 inlX13 rfl dX13_readWater_28 (fun v24460 hv24460 ov24460 => ?_)
      obtain rfl : v24460 = .ref x0 := hv24460.symm.trans pf0
      refine t_getN (C := RX12) (T := TX12) (N := 31) X hT mx0 gx0 rfl rfl 8 (by decide) (List.mem_of_getElem? (i := 12) rfl) inlX12 rfl dX13_readWater_31 (fun v24461 hv24461 ov24461 => ?_)
      obtain ⟨z24462, rfl, rz24462⟩ := okV_i ov24461
      refine lv_if_le (tgt := 43) hx hb dX13_readWater_34 (by decide) (fun c24463 => ?_) (fun c24463 => ?_)
      · have w24464 := cv_le (rfl : z24462.toInt = z24462.toInt) (by decide : (0 : Int32).toInt = 0) c24463
        exact K43 z24450 z24451 z24452 z24453 z24456 _ _ _ _ (by omega) (by omega) (by omega) (by omega) hT hfr pf0 pf1 pf2 qz24450 qz24451 qz24452 qz24453 hv24455 hstk hspt hkf (lv_sub hl [0] rfl)
      · have w24465 := cv_nle (rfl : z24462.toInt = z24462.toInt) (by decide : (0 : Int32).toInt = 0) c24463
        exact K37 z24450 z24451 z24452 z24453 z24456 _ _ _ _ (by omega) (by omega) (by omega) (by omega) hT hfr pf0 pf1 pf2 qz24450 qz24451 qz24452 qz24453 hv24455 hstk hspt hkf (lv_sub hl [0] rfl)
  refine lv_aload_n hx hb dX13_readWater_0 rfl (lv_at hl 0 rfl) ?_
  refine t_get (C := RX13) (T := TX13) (N := 37) X hT m0 g0 rfl rfl 4 (by decide) qw_477 inlX13 rfl dX13_readWater_1 (fun v24466 hv24466 ov24466 => ?_)
  obtain rfl : v24466 = .ref x0 := hv24466.symm.trans pf0
  refine t_getN (C := RX12) (T := TX12) (N := 31) X hT mx0 gx0 rfl rfl 6 (by decide) (List.mem_of_getElem? (i := 10) rfl) inlX12 rfl dX13_readWater_4 (fun v24467 hv24467 ov24467 => ?_)
  obtain ⟨z24468, rfl, rz24468⟩ := okV_i ov24467
  refine lv_bipush (v := 10) hx hb dX13_readWater_7 (by decide) ?_
  refine lv_icmp_ne (tgt := 17) hx hb dX13_readWater_9 (by decide) (fun c24469 => ?_) (fun c24469 => ?_)
  · have w24470 := cv_ne (rfl : z24468.toInt = z24468.toInt) (by decide : (10 : Int32).toInt = 10) c24469
    exact K17 x3 x4 x5 z24468 _ _ _ _ (by omega) (by omega) (by omega) hT hfr pf0 pf1 pf2 pf3 pf4 pf5 hv24467 hstk hspt hkf (lv_sub hl [0] rfl)
  · have w24471 := cv_eq (rfl : z24468.toInt = z24468.toInt) (by decide : (10 : Int32).toInt = 10) c24469
    refine lv_aload_n hx hb dX13_readWater_12 rfl (lv_at hl 0 rfl) ?_
    refine lv_iconst (v := 5) hx hb dX13_readWater_13 (by decide) ?_
    refine t_cVv (n := 1) (C := RX13) (T := TX13) (N := 37) (As := [.int 5]) (rest := []) X hT (km10_X13_flaw l G tag L F hT.2.2.2 p0 5 x0 x1 x2 x3 x4 x5 m0 g0 (by decide) mx0 gx0 pf0 mx1 gx1 pf1 mx2 gx2 pf2 (by omega) pf3 (by omega) pf4 (by omega) pf5 hkf) m0 g0 rfl rfl qw_548 qw_549 qw_550 qw_5 qw_551 ⟨rfl, by decide +kernel, by decide +kernel, by decide +kernel⟩ ⟨Nat.le_of_ble_eq_true rfl, Nat.le_of_ble_eq_true rfl⟩ hl rfl rfl (Nat.le_of_ble_eq_true rfl) dX13_readWater_14 ⟨Nat.le_of_ble_eq_true rfl, Nat.le_of_ble_eq_true rfl⟩ (fun F H locs hT hz24472 => ?_)
    obtain ⟨yz24472, ⟨soz24472, spz24472, faz24472, qsoz24472, qspz24472, qfaz24472, rsoz24472, rspz24472, rfaz24472, stz24472, ptz24472, hkf, pxz24472_0⟩⟩ := hz24472
    have pf0 := (yz24472.1 _ 4 (Or.inr (by decide)) (Or.inr (by decide)) (Or.inr (by decide))).trans pf0
    have pf1 := (yz24472.1 _ 28 (Or.inr (by decide)) (Or.inr (by decide)) (Or.inr (by decide))).trans pf1
    have pf2 := (yz24472.1 _ 29 (Or.inr (by decide)) (Or.inr (by decide)) (Or.inr (by decide))).trans pf2
    have pf4 := (yz24472.1 _ 8 (Or.inr (by decide)) (Or.inr (by decide)) (Or.inr (by decide))).trans pf4
    have hv24467 := (yz24472.1 _ 6 (Or.inr (by decide)) (Or.inr (by decide)) (Or.inr (by decide))).trans hv24467
    have hfr : (∀ b j : Nat, (tag b ≠ 44 ∨ j ≠ 6) → (tag b ≠ 46 ∨ j ≠ 8) → (tag b ≠ 46 ∨ j ≠ 9) → (tag b ≠ 46 ∨ j ≠ 10) → (tag b ≠ 46 ∨ j ≠ 11) → (tag b ≠ 46 ∨ j ≠ 12) → (tag b ≠ 46 ∨ j ≠ 13) → (tag b ≠ 46 ∨ j ≠ 14) → (tag b ≠ 46 ∨ j ≠ 15) → fld F b j = fld Fo b j) ∧ (∀ b j : Nat, tag b ≠ 28 → elm F b j = elm Fo b j) := ⟨fun b j n44_6 n46_8 n46_9 n46_10 n46_11 n46_12 n46_13 n46_14 n46_15 => (yz24472.1 b j n46_9 n46_13 n46_14).trans (hfr.1 b j n44_6 n46_8 n46_9 n46_10 n46_11 n46_12 n46_13 n46_14 n46_15), fun b j a28 => (yz24472.2 b j ).trans (hfr.2 b j a28)⟩
    have hstk := STK.tr hstk stz24472
    have hspt := SPT.tr hspt ptz24472
    exact K17 soz24472 spz24472 faz24472 z24468 _ _ _ _ (by omega) (by omega) (by omega) hT hfr pf0 pf1 pf2 qsoz24472 qspz24472 qfaz24472 hv24467 hstk hspt hkf (lv_sub hl [0] rfl)
set_option maxHeartbeats 4000000 in
set_option maxRecDepth 100000 in
theorem km70_X13_bounded (l : Launch) (G : KG) (tag : Nat → Nat) (L : List Nat) (Fo : Nat → va_E) (ho : okT G ttC tag L Fo) (p0 : Nat) (p1 : Int32) (p2 : Int32) (x0 : Nat) (x1 : Nat) (x2 : Nat) (x3 : Int32) (x4 : Int32) (x5 : Int32) (m0 : p0 ∈ L) (g0 : tag p0 = 46) (h1 : 0 ≤ p1.toInt ∧ p1.toInt ≤ 0) (h2 : 900 ≤ p2.toInt ∧ p2.toInt ≤ 900) (mx0 : x0 ∈ L) (gx0 : tag x0 = 44) (pf0 : fld Fo p0 4 = .ref x0) (mx1 : x1 ∈ L) (gx1 : tag x1 = 35) (pf1 : fld Fo x0 28 = .ref x1) (mx2 : x2 ∈ L) (gx2 : tag x2 = 36) (pf2 : fld Fo x0 29 = .ref x2) (hx3 : 0 ≤ x3.toInt ∧ x3.toInt ≤ 5) (pf3 : fld Fo p0 9 = .int x3) (hx4 : 0 ≤ x4.toInt ∧ x4.toInt ≤ 1000) (pf4 : fld Fo p0 8 = .int x4) (hx5 : 0 ≤ x5.toInt ∧ x5.toInt ≤ 7) (pf5 : fld Fo p0 13 = .int x5) (hkf : KF x3 x5) : TMi l yX13_bounded cX13_bounded 3 (some .int) { frames := 1, cells := 0, slots := 0, locals := 22 } G ttC tag L Fo [.ref p0, .int p1, .int p2] (fun r F1 => (0 ≤ r.toInt ∧ r.toInt ≤ 900) ∧ ((∀ b j : Nat, (tag b ≠ 46 ∨ j ≠ 9) → (tag b ≠ 46 ∨ j ≠ 13) → (tag b ≠ 46 ∨ j ≠ 14) → fld F1 b j = fld Fo b j) ∧ (∀ b j : Nat, elm F1 b j = elm Fo b j)) ∧ (∃ so sp fa : Int32, fld F1 p0 9 = .int so ∧ fld F1 p0 8 = .int sp ∧ fld F1 p0 13 = .int fa ∧ (0 ≤ so.toInt ∧ so.toInt ≤ 5) ∧ (0 ≤ sp.toInt ∧ sp.toInt ≤ 1000) ∧ (0 ≤ fa.toInt ∧ fa.toInt ≤ 7) ∧ STK x3 so ∧ SPT x3 x4 so sp ∧ KF so fa)) := by
  refine t_bodyi (y := yX13_bounded) (cd := cX13_bounded) (mL := 3) (rt := (some .int)) (rm := { frames := 1, cells := 0, slots := 0, locals := 22 }) (av := [.ref p0, .int p1, .int p2]) (by decide) (Nat.le_of_ble_eq_true rfl) ho ?_
  intro p e s m args below meth c ls A Q hQ X hT hl
  have hx := X.1.1
  have hb := X.1.2.1
  have hl : lv_has ls 3 [(0, .ref p0), (1, .int p1), (2, .int p2)] := hl
  obtain ⟨F, hFo⟩ : ∃ F : Nat → va_E, F = Fo := ⟨_, rfl⟩
  rw [← hFo] at hT pf0 pf1 pf2 pf3 pf4 pf5
  have hfr : (∀ b j : Nat, (tag b ≠ 46 ∨ j ≠ 9) → (tag b ≠ 46 ∨ j ≠ 13) → (tag b ≠ 46 ∨ j ≠ 14) → fld F b j = fld Fo b j) ∧ (∀ b j : Nat, elm F b j = elm Fo b j) := by
    rw [hFo]
    exact ⟨by intros; rfl, by intros; rfl⟩
  have hstk : STK x3 x3 := STK.rf
  have hspt : SPT x3 x4 x3 x4 := SPT.rf
  refine lv_aload_n hx hb dX13_bounded_0 rfl (lv_at hl 0 rfl) ?_
  refine t_get (C := RX13) (T := TX13) (N := 37) X hT m0 g0 rfl rfl 9 (by decide) qw_478 inlX13 rfl dX13_bounded_1 (fun v24772 hv24772 ov24772 => ?_)
  obtain rfl : v24772 = .int x3 := hv24772.symm.trans pf3
  refine lv_iconst (v := 3) hx hb dX13_bounded_4 (by decide) ?_
  refine lv_icmp_eq (tgt := 16) hx hb dX13_bounded_5 (by decide) (fun c24773 => ?_) (fun c24773 => ?_)
  · have w24774 := cv_eq (rfl : x3.toInt = x3.toInt) (by decide : (3 : Int32).toInt = 3) c24773
    refine lv_aload_n hx hb dX13_bounded_16 rfl (lv_at hl 0 rfl) ?_
    refine t_get (C := RX13) (T := TX13) (N := 37) X hT m0 g0 rfl rfl 12 (by decide) qw_516 inlX13 rfl dX13_bounded_17 (fun v24775 hv24775 ov24775 => ?_)
    obtain ⟨z24776, rfl, rz24776⟩ := okV_i ov24775
    refine lv_iload_n hx hb dX13_bounded_20 rfl (lv_at hl 1 rfl) ?_
    refine lv_iload_n hx hb dX13_bounded_21 rfl (lv_at hl 2 rfl) ?_
    refine t_cSi (n := 3) (As := [.int z24776, .int p1, .int p2]) (rest := []) X hT (km19_X13_within l G tag L F hT.2.2.2 z24776 p1 p2 ) qw_568 qw_569 qw_5 qw_570 ⟨by decide +kernel, by decide +kernel, by decide +kernel⟩ ⟨Nat.le_of_ble_eq_true rfl, Nat.le_of_ble_eq_true rfl⟩ hl rfl rfl (Nat.le_of_ble_eq_true rfl) dX13_bounded_22 ⟨Nat.le_of_ble_eq_true rfl, Nat.le_of_ble_eq_true rfl⟩ (fun z24777 F9 H locs hT hz24777 => ?_)
    obtain ⟨fz24777, hz24777, xz24777_0⟩ := hz24777
    rw [fz24777] at hT
    refine lv_if_ne (tgt := 33) hx hb dX13_bounded_25 (by decide) (fun c24778 => ?_) (fun c24778 => ?_)
    · have w24779 := cv_ne (rfl : z24777.toInt = z24777.toInt) (by decide : (0 : Int32).toInt = 0) c24778
      have w24780 := xz24777_0 (by omega)
      refine lv_aload_n hx hb dX13_bounded_33 rfl (lv_at hl 0 rfl) ?_
      refine t_get (C := RX13) (T := TX13) (N := 37) X hT m0 g0 rfl rfl 9 (by decide) qw_478 inlX13 rfl dX13_bounded_34 (fun v24781 hv24781 ov24781 => ?_)
      obtain rfl : v24781 = .int x3 := hv24781.symm.trans pf3
      refine lv_iconst (v := 5) hx hb dX13_bounded_37 (by decide) ?_
      refine lv_icmp_ne (tgt := 45) hx hb dX13_bounded_38 (by decide) (fun c24782 => ?_) (fun c24782 => ?_)
      · have w24783 := cv_ne (rfl : x3.toInt = x3.toInt) (by decide : (5 : Int32).toInt = 5) c24782
        refine lv_aload_n hx hb dX13_bounded_45 rfl (lv_at hl 0 rfl) ?_
        refine t_get (C := RX13) (T := TX13) (N := 37) X hT m0 g0 rfl rfl 12 (by decide) qw_516 inlX13 rfl dX13_bounded_46 (fun v24784 hv24784 ov24784 => ?_)
        obtain rfl : v24784 = .int z24776 := hv24784.symm.trans hv24775
        exact t_iret hQ X hT (⟨(by omega), hfr, ⟨x3, x4, x5, pf3, pf4, pf5, (by omega), (by omega), (by omega), hstk, hspt, hkf⟩⟩) (Nat.le_of_ble_eq_true rfl) (Nat.le_of_ble_eq_true rfl) dX13_bounded_49
      · have w24785 := cv_eq (rfl : x3.toInt = x3.toInt) (by decide : (5 : Int32).toInt = 5) c24782
        exfalso
        omega
    · have w24786 := cv_eq (rfl : z24777.toInt = z24777.toInt) (by decide : (0 : Int32).toInt = 0) c24778
      refine lv_aload_n hx hb dX13_bounded_28 rfl (lv_at hl 0 rfl) ?_
      refine lv_iconst (v := 4) hx hb dX13_bounded_29 (by decide) ?_
      refine t_cVv (n := 1) (C := RX13) (T := TX13) (N := 37) (As := [.int 4]) (rest := []) X hT (km10_X13_flaw l G tag L F hT.2.2.2 p0 4 x0 x1 x2 x3 x4 x5 m0 g0 (by decide) mx0 gx0 pf0 mx1 gx1 pf1 mx2 gx2 pf2 (by omega) pf3 (by omega) pf4 (by omega) pf5 hkf) m0 g0 rfl rfl qw_548 qw_549 qw_550 qw_5 qw_551 ⟨rfl, by decide +kernel, by decide +kernel, by decide +kernel⟩ ⟨Nat.le_of_ble_eq_true rfl, Nat.le_of_ble_eq_true rfl⟩ hl rfl rfl (Nat.le_of_ble_eq_true rfl) dX13_bounded_30 ⟨Nat.le_of_ble_eq_true rfl, Nat.le_of_ble_eq_true rfl⟩ (fun F H locs hT hz24787 => ?_)
      obtain ⟨yz24787, ⟨soz24787, spz24787, faz24787, qsoz24787, qspz24787, qfaz24787, rsoz24787, rspz24787, rfaz24787, stz24787, ptz24787, hkf, pxz24787_0⟩⟩ := hz24787
      have pf0 := (yz24787.1 _ 4 (Or.inr (by decide)) (Or.inr (by decide)) (Or.inr (by decide))).trans pf0
      have pf1 := (yz24787.1 _ 28 (Or.inr (by decide)) (Or.inr (by decide)) (Or.inr (by decide))).trans pf1
      have pf2 := (yz24787.1 _ 29 (Or.inr (by decide)) (Or.inr (by decide)) (Or.inr (by decide))).trans pf2
      have pf4 := (yz24787.1 _ 8 (Or.inr (by decide)) (Or.inr (by decide)) (Or.inr (by decide))).trans pf4
      have hv24775 := (yz24787.1 _ 12 (Or.inr (by decide)) (Or.inr (by decide)) (Or.inr (by decide))).trans hv24775
      have hfr : (∀ b j : Nat, (tag b ≠ 46 ∨ j ≠ 9) → (tag b ≠ 46 ∨ j ≠ 13) → (tag b ≠ 46 ∨ j ≠ 14) → fld F b j = fld Fo b j) ∧ (∀ b j : Nat, elm F b j = elm Fo b j) := ⟨fun b j n46_9 n46_13 n46_14 => (yz24787.1 b j n46_9 n46_13 n46_14).trans (hfr.1 b j n46_9 n46_13 n46_14), fun b j  => (yz24787.2 b j ).trans (hfr.2 b j )⟩
      have hstk := STK.tr hstk stz24787
      have hspt := SPT.tr hspt ptz24787
      refine lv_aload_n hx hb dX13_bounded_33 rfl (lv_at hl 0 rfl) ?_
      refine t_get (C := RX13) (T := TX13) (N := 37) X hT m0 g0 rfl rfl 9 (by decide) qw_478 inlX13 rfl dX13_bounded_34 (fun v24788 hv24788 ov24788 => ?_)
      obtain rfl : v24788 = .int soz24787 := hv24788.symm.trans qsoz24787
      refine lv_iconst (v := 5) hx hb dX13_bounded_37 (by decide) ?_
      refine lv_icmp_ne (tgt := 45) hx hb dX13_bounded_38 (by decide) (fun c24789 => ?_) (fun c24789 => ?_)
      · have w24790 := cv_ne (rfl : soz24787.toInt = soz24787.toInt) (by decide : (5 : Int32).toInt = 5) c24789
        exfalso
        omega
      · have w24791 := cv_eq (rfl : soz24787.toInt = soz24787.toInt) (by decide : (5 : Int32).toInt = 5) c24789
        refine lv_iload_n hx hb dX13_bounded_41 rfl (lv_at hl 1 rfl) ?_
        refine lv_goto (tgt := 49) hx hb dX13_bounded_42 (by decide) ?_
        exact t_iret hQ X hT (⟨(by omega), hfr, ⟨soz24787, spz24787, faz24787, qsoz24787, qspz24787, qfaz24787, (by omega), (by omega), (by omega), hstk, hspt, hkf⟩⟩) (Nat.le_of_ble_eq_true rfl) (Nat.le_of_ble_eq_true rfl) dX13_bounded_49
  · have w24792 := cv_ne (rfl : x3.toInt = x3.toInt) (by decide : (3 : Int32).toInt = 3) c24773
    refine lv_aload_n hx hb dX13_bounded_8 rfl (lv_at hl 0 rfl) ?_
    refine lv_iconst (v := 1) hx hb dX13_bounded_9 (by decide) ?_
    refine t_cVv (n := 1) (C := RX13) (T := TX13) (N := 37) (As := [.int 1]) (rest := []) X hT (km10_X13_flaw l G tag L F hT.2.2.2 p0 1 x0 x1 x2 x3 x4 x5 m0 g0 (by decide) mx0 gx0 pf0 mx1 gx1 pf1 mx2 gx2 pf2 (by omega) pf3 (by omega) pf4 (by omega) pf5 hkf) m0 g0 rfl rfl qw_548 qw_549 qw_550 qw_5 qw_551 ⟨rfl, by decide +kernel, by decide +kernel, by decide +kernel⟩ ⟨Nat.le_of_ble_eq_true rfl, Nat.le_of_ble_eq_true rfl⟩ hl rfl rfl (Nat.le_of_ble_eq_true rfl) dX13_bounded_10 ⟨Nat.le_of_ble_eq_true rfl, Nat.le_of_ble_eq_true rfl⟩ (fun F H locs hT hz24793 => ?_)
    obtain ⟨yz24793, ⟨soz24793, spz24793, faz24793, qsoz24793, qspz24793, qfaz24793, rsoz24793, rspz24793, rfaz24793, stz24793, ptz24793, hkf, pxz24793_0⟩⟩ := hz24793
    have pf0 := (yz24793.1 _ 4 (Or.inr (by decide)) (Or.inr (by decide)) (Or.inr (by decide))).trans pf0
    have pf1 := (yz24793.1 _ 28 (Or.inr (by decide)) (Or.inr (by decide)) (Or.inr (by decide))).trans pf1
    have pf2 := (yz24793.1 _ 29 (Or.inr (by decide)) (Or.inr (by decide)) (Or.inr (by decide))).trans pf2
    have pf4 := (yz24793.1 _ 8 (Or.inr (by decide)) (Or.inr (by decide)) (Or.inr (by decide))).trans pf4
    have hfr : (∀ b j : Nat, (tag b ≠ 46 ∨ j ≠ 9) → (tag b ≠ 46 ∨ j ≠ 13) → (tag b ≠ 46 ∨ j ≠ 14) → fld F b j = fld Fo b j) ∧ (∀ b j : Nat, elm F b j = elm Fo b j) := ⟨fun b j n46_9 n46_13 n46_14 => (yz24793.1 b j n46_9 n46_13 n46_14).trans (hfr.1 b j n46_9 n46_13 n46_14), fun b j  => (yz24793.2 b j ).trans (hfr.2 b j )⟩
    have hstk := STK.tr hstk stz24793
    have hspt := SPT.tr hspt ptz24793
    refine lv_goto (tgt := 33) hx hb dX13_bounded_13 (by decide) ?_
    refine lv_aload_n hx hb dX13_bounded_33 rfl (lv_at hl 0 rfl) ?_
    refine t_get (C := RX13) (T := TX13) (N := 37) X hT m0 g0 rfl rfl 9 (by decide) qw_478 inlX13 rfl dX13_bounded_34 (fun v24794 hv24794 ov24794 => ?_)
    obtain rfl : v24794 = .int soz24793 := hv24794.symm.trans qsoz24793
    refine lv_iconst (v := 5) hx hb dX13_bounded_37 (by decide) ?_
    refine lv_icmp_ne (tgt := 45) hx hb dX13_bounded_38 (by decide) (fun c24795 => ?_) (fun c24795 => ?_)
    · have w24796 := cv_ne (rfl : soz24793.toInt = soz24793.toInt) (by decide : (5 : Int32).toInt = 5) c24795
      exfalso
      omega
    · have w24797 := cv_eq (rfl : soz24793.toInt = soz24793.toInt) (by decide : (5 : Int32).toInt = 5) c24795
      refine lv_iload_n hx hb dX13_bounded_41 rfl (lv_at hl 1 rfl) ?_
      refine lv_goto (tgt := 49) hx hb dX13_bounded_42 (by decide) ?_
      exact t_iret hQ X hT (⟨(by omega), hfr, ⟨soz24793, spz24793, faz24793, qsoz24793, qspz24793, qfaz24793, (by omega), (by omega), (by omega), hstk, hspt, hkf⟩⟩) (Nat.le_of_ble_eq_true rfl) (Nat.le_of_ble_eq_true rfl) dX13_bounded_49
set_option maxHeartbeats 4000000 in
set_option maxRecDepth 100000 in
theorem km71_X13_readWhole (l : Launch) (G : KG) (tag : Nat → Nat) (L : List Nat) (Fo : Nat → va_E) (ho : okT G ttC tag L Fo) (p0 : Nat) (p1 : Int32) (p2 : Int32) (x0 : Nat) (x1 : Nat) (x2 : Nat) (x3 : Int32) (x4 : Int32) (x5 : Int32) (m0 : p0 ∈ L) (g0 : tag p0 = 46) (h1 : 0 ≤ p1.toInt ∧ p1.toInt ≤ 0) (h2 : 900 ≤ p2.toInt ∧ p2.toInt ≤ 900) (mx0 : x0 ∈ L) (gx0 : tag x0 = 44) (pf0 : fld Fo p0 4 = .ref x0) (mx1 : x1 ∈ L) (gx1 : tag x1 = 35) (pf1 : fld Fo x0 28 = .ref x1) (mx2 : x2 ∈ L) (gx2 : tag x2 = 36) (pf2 : fld Fo x0 29 = .ref x2) (hx3 : 0 ≤ x3.toInt ∧ x3.toInt ≤ 5) (pf3 : fld Fo p0 9 = .int x3) (hx4 : 0 ≤ x4.toInt ∧ x4.toInt ≤ 1000) (pf4 : fld Fo p0 8 = .int x4) (hx5 : 0 ≤ x5.toInt ∧ x5.toInt ≤ 7) (pf5 : fld Fo p0 13 = .int x5) (hkf : KF x3 x5) : TMi l yX13_readWhole cX13_readWhole 4 (some .int) { frames := 2, cells := 0, slots := 0, locals := 44 } G ttC tag L Fo [.ref p0, .int p1, .int p2] (fun r F1 => (0 ≤ r.toInt ∧ r.toInt ≤ 900) ∧ ((∀ b j : Nat, (tag b ≠ 46 ∨ j ≠ 8) → (tag b ≠ 46 ∨ j ≠ 9) → (tag b ≠ 46 ∨ j ≠ 10) → (tag b ≠ 46 ∨ j ≠ 11) → (tag b ≠ 46 ∨ j ≠ 12) → (tag b ≠ 46 ∨ j ≠ 13) → (tag b ≠ 46 ∨ j ≠ 14) → (tag b ≠ 46 ∨ j ≠ 15) → fld F1 b j = fld Fo b j) ∧ (∀ b j : Nat, elm F1 b j = elm Fo b j)) ∧ (∃ so sp fa : Int32, fld F1 p0 9 = .int so ∧ fld F1 p0 8 = .int sp ∧ fld F1 p0 13 = .int fa ∧ (0 ≤ so.toInt ∧ so.toInt ≤ 5) ∧ (0 ≤ sp.toInt ∧ sp.toInt ≤ 1000) ∧ (0 ≤ fa.toInt ∧ fa.toInt ≤ 7) ∧ STK x3 so ∧ SPT x3 x4 so sp ∧ KF so fa)) := by
  refine t_bodyi (y := yX13_readWhole) (cd := cX13_readWhole) (mL := 4) (rt := (some .int)) (rm := { frames := 2, cells := 0, slots := 0, locals := 44 }) (av := [.ref p0, .int p1, .int p2]) (by decide) (Nat.le_of_ble_eq_true rfl) ho ?_
  intro p e s m args below meth c ls A Q hQ X hT hl
  have hx := X.1.1
  have hb := X.1.2.1
  have hl : lv_has ls 4 [(0, .ref p0), (1, .int p1), (2, .int p2)] := hl
  obtain ⟨F, hFo⟩ : ∃ F : Nat → va_E, F = Fo := ⟨_, rfl⟩
  rw [← hFo] at hT pf0 pf1 pf2 pf3 pf4 pf5
  have hfr : (∀ b j : Nat, (tag b ≠ 46 ∨ j ≠ 8) → (tag b ≠ 46 ∨ j ≠ 9) → (tag b ≠ 46 ∨ j ≠ 10) → (tag b ≠ 46 ∨ j ≠ 11) → (tag b ≠ 46 ∨ j ≠ 12) → (tag b ≠ 46 ∨ j ≠ 13) → (tag b ≠ 46 ∨ j ≠ 14) → (tag b ≠ 46 ∨ j ≠ 15) → fld F b j = fld Fo b j) ∧ (∀ b j : Nat, elm F b j = elm Fo b j) := by
    rw [hFo]
    exact ⟨by intros; rfl, by intros; rfl⟩
  have hstk : STK x3 x3 := STK.rf
  have hspt : SPT x3 x4 x3 x4 := SPT.rf
  refine lv_aload_n hx hb dX13_readWhole_0 rfl (lv_at hl 0 rfl) ?_
  refine lv_iload_n hx hb dX13_readWhole_1 rfl (lv_at hl 1 rfl) ?_
  refine lv_iload_n hx hb dX13_readWhole_2 rfl (lv_at hl 2 rfl) ?_
  refine t_cVi (n := 2) (C := RX13) (T := TX13) (N := 37) (As := [.int p1, .int p2]) (rest := []) X hT (km70_X13_bounded l G tag L F hT.2.2.2 p0 p1 p2 x0 x1 x2 x3 x4 x5 m0 g0 (by omega) (by omega) mx0 gx0 pf0 mx1 gx1 pf1 mx2 gx2 pf2 (by omega) pf3 (by omega) pf4 (by omega) pf5 hkf) m0 g0 rfl rfl qw_564 qw_565 qw_566 qw_5 qw_567 ⟨rfl, by decide +kernel, by decide +kernel, by decide +kernel⟩ ⟨Nat.le_of_ble_eq_true rfl, Nat.le_of_ble_eq_true rfl⟩ hl rfl rfl (Nat.le_of_ble_eq_true rfl) dX13_readWhole_3 ⟨Nat.le_of_ble_eq_true rfl, Nat.le_of_ble_eq_true rfl⟩ (fun z24820 F H locs hT hz24820 => ?_)
  obtain ⟨hz24820, yz24820, ⟨soz24820, spz24820, faz24820, qsoz24820, qspz24820, qfaz24820, rsoz24820, rspz24820, rfaz24820, stz24820, ptz24820, hkf⟩⟩ := hz24820
  have pf0 := (yz24820.1 _ 4 (Or.inr (by decide)) (Or.inr (by decide)) (Or.inr (by decide))).trans pf0
  have pf1 := (yz24820.1 _ 28 (Or.inr (by decide)) (Or.inr (by decide)) (Or.inr (by decide))).trans pf1
  have pf2 := (yz24820.1 _ 29 (Or.inr (by decide)) (Or.inr (by decide)) (Or.inr (by decide))).trans pf2
  have pf4 := (yz24820.1 _ 8 (Or.inr (by decide)) (Or.inr (by decide)) (Or.inr (by decide))).trans pf4
  have hfr : (∀ b j : Nat, (tag b ≠ 46 ∨ j ≠ 8) → (tag b ≠ 46 ∨ j ≠ 9) → (tag b ≠ 46 ∨ j ≠ 10) → (tag b ≠ 46 ∨ j ≠ 11) → (tag b ≠ 46 ∨ j ≠ 12) → (tag b ≠ 46 ∨ j ≠ 13) → (tag b ≠ 46 ∨ j ≠ 14) → (tag b ≠ 46 ∨ j ≠ 15) → fld F b j = fld Fo b j) ∧ (∀ b j : Nat, elm F b j = elm Fo b j) := ⟨fun b j n46_8 n46_9 n46_10 n46_11 n46_12 n46_13 n46_14 n46_15 => (yz24820.1 b j n46_9 n46_13 n46_14).trans (hfr.1 b j n46_8 n46_9 n46_10 n46_11 n46_12 n46_13 n46_14 n46_15), fun b j  => (yz24820.2 b j ).trans (hfr.2 b j )⟩
  have hstk := STK.tr hstk stz24820
  have hspt := SPT.tr hspt ptz24820
  refine lv_istore_n (lv' := [(3, .int z24820), (0, .ref p0), (1, .int p1), (2, .int p2)]) hx hb dX13_readWhole_6 rfl hl (by decide) rfl (fun ls hl => ?_)
  refine lv_aload_n hx hb dX13_readWhole_7 rfl (lv_at hl 1 rfl) ?_
  refine t_cVv (n := 0) (C := RX13) (T := TX13) (N := 37) (As := []) (rest := []) X hT (km14_X13_goesOn l G tag L F hT.2.2.2 p0 x0 x1 x2 soz24820 spz24820 faz24820 m0 g0 mx0 gx0 pf0 mx1 gx1 pf1 mx2 gx2 pf2 (by omega) qsoz24820 (by omega) qspz24820 (by omega) qfaz24820 hkf) m0 g0 rfl rfl qw_508 qw_509 qw_510 qw_5 qw_511 ⟨rfl, by decide +kernel, by decide +kernel, by decide +kernel⟩ ⟨Nat.le_of_ble_eq_true rfl, Nat.le_of_ble_eq_true rfl⟩ hl rfl rfl (Nat.le_of_ble_eq_true rfl) dX13_readWhole_8 ⟨Nat.le_of_ble_eq_true rfl, Nat.le_of_ble_eq_true rfl⟩ (fun F H locs hT hz24821 => ?_)
  obtain ⟨yz24821, ⟨soz24821, spz24821, faz24821, qsoz24821, qspz24821, qfaz24821, rsoz24821, rspz24821, rfaz24821, stz24821, ptz24821, hkf⟩⟩ := hz24821
  have pf0 := (yz24821.1 _ 4 (Or.inr (by decide)) (Or.inr (by decide)) (Or.inr (by decide)) (Or.inr (by decide)) (Or.inr (by decide)) (Or.inr (by decide))).trans pf0
  have pf1 := (yz24821.1 _ 28 (Or.inr (by decide)) (Or.inr (by decide)) (Or.inr (by decide)) (Or.inr (by decide)) (Or.inr (by decide)) (Or.inr (by decide))).trans pf1
  have pf2 := (yz24821.1 _ 29 (Or.inr (by decide)) (Or.inr (by decide)) (Or.inr (by decide)) (Or.inr (by decide)) (Or.inr (by decide)) (Or.inr (by decide))).trans pf2
  have qfaz24820 := (yz24821.1 _ 13 (Or.inr (by decide)) (Or.inr (by decide)) (Or.inr (by decide)) (Or.inr (by decide)) (Or.inr (by decide)) (Or.inr (by decide))).trans qfaz24820
  have hfr : (∀ b j : Nat, (tag b ≠ 46 ∨ j ≠ 8) → (tag b ≠ 46 ∨ j ≠ 9) → (tag b ≠ 46 ∨ j ≠ 10) → (tag b ≠ 46 ∨ j ≠ 11) → (tag b ≠ 46 ∨ j ≠ 12) → (tag b ≠ 46 ∨ j ≠ 13) → (tag b ≠ 46 ∨ j ≠ 14) → (tag b ≠ 46 ∨ j ≠ 15) → fld F b j = fld Fo b j) ∧ (∀ b j : Nat, elm F b j = elm Fo b j) := ⟨fun b j n46_8 n46_9 n46_10 n46_11 n46_12 n46_13 n46_14 n46_15 => (yz24821.1 b j n46_8 n46_9 n46_10 n46_11 n46_12 n46_15).trans (hfr.1 b j n46_8 n46_9 n46_10 n46_11 n46_12 n46_13 n46_14 n46_15), fun b j  => (yz24821.2 b j ).trans (hfr.2 b j )⟩
  have hstk := STK.tr hstk stz24821
  have hspt := SPT.tr hspt ptz24821
  refine lv_iload_n hx hb dX13_readWhole_11 rfl (lv_at hl 0 rfl) ?_
  exact t_iret hQ X hT (⟨(by omega), hfr, ⟨soz24821, spz24821, faz24821, qsoz24821, qspz24821, qfaz24821, (by omega), (by omega), (by omega), hstk, hspt, hkf⟩⟩) (Nat.le_of_ble_eq_true rfl) (Nat.le_of_ble_eq_true rfl) dX13_readWhole_12
set_option maxHeartbeats 4000000 in
set_option maxRecDepth 100000 in
theorem km72_X13_bounded (l : Launch) (G : KG) (tag : Nat → Nat) (L : List Nat) (Fo : Nat → va_E) (ho : okT G ttC tag L Fo) (p0 : Nat) (p1 : Int32) (p2 : Int32) (x0 : Nat) (x1 : Nat) (x2 : Nat) (x3 : Int32) (x4 : Int32) (x5 : Int32) (m0 : p0 ∈ L) (g0 : tag p0 = 46) (h1 : 0 ≤ p1.toInt ∧ p1.toInt ≤ 0) (h2 : 100 ≤ p2.toInt ∧ p2.toInt ≤ 100) (mx0 : x0 ∈ L) (gx0 : tag x0 = 44) (pf0 : fld Fo p0 4 = .ref x0) (mx1 : x1 ∈ L) (gx1 : tag x1 = 35) (pf1 : fld Fo x0 28 = .ref x1) (mx2 : x2 ∈ L) (gx2 : tag x2 = 36) (pf2 : fld Fo x0 29 = .ref x2) (hx3 : 0 ≤ x3.toInt ∧ x3.toInt ≤ 5) (pf3 : fld Fo p0 9 = .int x3) (hx4 : 0 ≤ x4.toInt ∧ x4.toInt ≤ 1000) (pf4 : fld Fo p0 8 = .int x4) (hx5 : 0 ≤ x5.toInt ∧ x5.toInt ≤ 7) (pf5 : fld Fo p0 13 = .int x5) (hkf : KF x3 x5) : TMi l yX13_bounded cX13_bounded 3 (some .int) { frames := 1, cells := 0, slots := 0, locals := 22 } G ttC tag L Fo [.ref p0, .int p1, .int p2] (fun r F1 => (0 ≤ r.toInt ∧ r.toInt ≤ 100) ∧ ((∀ b j : Nat, (tag b ≠ 46 ∨ j ≠ 9) → (tag b ≠ 46 ∨ j ≠ 13) → (tag b ≠ 46 ∨ j ≠ 14) → fld F1 b j = fld Fo b j) ∧ (∀ b j : Nat, elm F1 b j = elm Fo b j)) ∧ (∃ so sp fa : Int32, fld F1 p0 9 = .int so ∧ fld F1 p0 8 = .int sp ∧ fld F1 p0 13 = .int fa ∧ (0 ≤ so.toInt ∧ so.toInt ≤ 5) ∧ (0 ≤ sp.toInt ∧ sp.toInt ≤ 1000) ∧ (0 ≤ fa.toInt ∧ fa.toInt ≤ 7) ∧ STK x3 so ∧ SPT x3 x4 so sp ∧ KF so fa)) := by
  refine t_bodyi (y := yX13_bounded) (cd := cX13_bounded) (mL := 3) (rt := (some .int)) (rm := { frames := 1, cells := 0, slots := 0, locals := 22 }) (av := [.ref p0, .int p1, .int p2]) (by decide) (Nat.le_of_ble_eq_true rfl) ho ?_
  intro p e s m args below meth c ls A Q hQ X hT hl
  have hx := X.1.1
  have hb := X.1.2.1
  have hl : lv_has ls 3 [(0, .ref p0), (1, .int p1), (2, .int p2)] := hl
  obtain ⟨F, hFo⟩ : ∃ F : Nat → va_E, F = Fo := ⟨_, rfl⟩
  rw [← hFo] at hT pf0 pf1 pf2 pf3 pf4 pf5
  have hfr : (∀ b j : Nat, (tag b ≠ 46 ∨ j ≠ 9) → (tag b ≠ 46 ∨ j ≠ 13) → (tag b ≠ 46 ∨ j ≠ 14) → fld F b j = fld Fo b j) ∧ (∀ b j : Nat, elm F b j = elm Fo b j) := by
    rw [hFo]
    exact ⟨by intros; rfl, by intros; rfl⟩
  have hstk : STK x3 x3 := STK.rf
  have hspt : SPT x3 x4 x3 x4 := SPT.rf
  refine lv_aload_n hx hb dX13_bounded_0 rfl (lv_at hl 0 rfl) ?_
  refine t_get (C := RX13) (T := TX13) (N := 37) X hT m0 g0 rfl rfl 9 (by decide) qw_478 inlX13 rfl dX13_bounded_1 (fun v25110 hv25110 ov25110 => ?_)
  obtain rfl : v25110 = .int x3 := hv25110.symm.trans pf3
  refine lv_iconst (v := 3) hx hb dX13_bounded_4 (by decide) ?_
  refine lv_icmp_eq (tgt := 16) hx hb dX13_bounded_5 (by decide) (fun c25111 => ?_) (fun c25111 => ?_)
  · have w25112 := cv_eq (rfl : x3.toInt = x3.toInt) (by decide : (3 : Int32).toInt = 3) c25111
    refine lv_aload_n hx hb dX13_bounded_16 rfl (lv_at hl 0 rfl) ?_
    refine t_get (C := RX13) (T := TX13) (N := 37) X hT m0 g0 rfl rfl 12 (by decide) qw_516 inlX13 rfl dX13_bounded_17 (fun v25113 hv25113 ov25113 => ?_)
    obtain ⟨z25114, rfl, rz25114⟩ := okV_i ov25113
    refine lv_iload_n hx hb dX13_bounded_20 rfl (lv_at hl 1 rfl) ?_
    refine lv_iload_n hx hb dX13_bounded_21 rfl (lv_at hl 2 rfl) ?_
    refine t_cSi (n := 3) (As := [.int z25114, .int p1, .int p2]) (rest := []) X hT (km19_X13_within l G tag L F hT.2.2.2 z25114 p1 p2 ) qw_568 qw_569 qw_5 qw_570 ⟨by decide +kernel, by decide +kernel, by decide +kernel⟩ ⟨Nat.le_of_ble_eq_true rfl, Nat.le_of_ble_eq_true rfl⟩ hl rfl rfl (Nat.le_of_ble_eq_true rfl) dX13_bounded_22 ⟨Nat.le_of_ble_eq_true rfl, Nat.le_of_ble_eq_true rfl⟩ (fun z25115 F9 H locs hT hz25115 => ?_)
    obtain ⟨fz25115, hz25115, xz25115_0⟩ := hz25115
    rw [fz25115] at hT
    refine lv_if_ne (tgt := 33) hx hb dX13_bounded_25 (by decide) (fun c25116 => ?_) (fun c25116 => ?_)
    · have w25117 := cv_ne (rfl : z25115.toInt = z25115.toInt) (by decide : (0 : Int32).toInt = 0) c25116
      have w25118 := xz25115_0 (by omega)
      refine lv_aload_n hx hb dX13_bounded_33 rfl (lv_at hl 0 rfl) ?_
      refine t_get (C := RX13) (T := TX13) (N := 37) X hT m0 g0 rfl rfl 9 (by decide) qw_478 inlX13 rfl dX13_bounded_34 (fun v25119 hv25119 ov25119 => ?_)
      obtain rfl : v25119 = .int x3 := hv25119.symm.trans pf3
      refine lv_iconst (v := 5) hx hb dX13_bounded_37 (by decide) ?_
      refine lv_icmp_ne (tgt := 45) hx hb dX13_bounded_38 (by decide) (fun c25120 => ?_) (fun c25120 => ?_)
      · have w25121 := cv_ne (rfl : x3.toInt = x3.toInt) (by decide : (5 : Int32).toInt = 5) c25120
        refine lv_aload_n hx hb dX13_bounded_45 rfl (lv_at hl 0 rfl) ?_
        refine t_get (C := RX13) (T := TX13) (N := 37) X hT m0 g0 rfl rfl 12 (by decide) qw_516 inlX13 rfl dX13_bounded_46 (fun v25122 hv25122 ov25122 => ?_)
        obtain rfl : v25122 = .int z25114 := hv25122.symm.trans hv25113
        exact t_iret hQ X hT (⟨(by omega), hfr, ⟨x3, x4, x5, pf3, pf4, pf5, (by omega), (by omega), (by omega), hstk, hspt, hkf⟩⟩) (Nat.le_of_ble_eq_true rfl) (Nat.le_of_ble_eq_true rfl) dX13_bounded_49
      · have w25123 := cv_eq (rfl : x3.toInt = x3.toInt) (by decide : (5 : Int32).toInt = 5) c25120
        exfalso
        omega
    · have w25124 := cv_eq (rfl : z25115.toInt = z25115.toInt) (by decide : (0 : Int32).toInt = 0) c25116
      refine lv_aload_n hx hb dX13_bounded_28 rfl (lv_at hl 0 rfl) ?_
      refine lv_iconst (v := 4) hx hb dX13_bounded_29 (by decide) ?_
      refine t_cVv (n := 1) (C := RX13) (T := TX13) (N := 37) (As := [.int 4]) (rest := []) X hT (km10_X13_flaw l G tag L F hT.2.2.2 p0 4 x0 x1 x2 x3 x4 x5 m0 g0 (by decide) mx0 gx0 pf0 mx1 gx1 pf1 mx2 gx2 pf2 (by omega) pf3 (by omega) pf4 (by omega) pf5 hkf) m0 g0 rfl rfl qw_548 qw_549 qw_550 qw_5 qw_551 ⟨rfl, by decide +kernel, by decide +kernel, by decide +kernel⟩ ⟨Nat.le_of_ble_eq_true rfl, Nat.le_of_ble_eq_true rfl⟩ hl rfl rfl (Nat.le_of_ble_eq_true rfl) dX13_bounded_30 ⟨Nat.le_of_ble_eq_true rfl, Nat.le_of_ble_eq_true rfl⟩ (fun F H locs hT hz25125 => ?_)
      obtain ⟨yz25125, ⟨soz25125, spz25125, faz25125, qsoz25125, qspz25125, qfaz25125, rsoz25125, rspz25125, rfaz25125, stz25125, ptz25125, hkf, pxz25125_0⟩⟩ := hz25125
      have pf0 := (yz25125.1 _ 4 (Or.inr (by decide)) (Or.inr (by decide)) (Or.inr (by decide))).trans pf0
      have pf1 := (yz25125.1 _ 28 (Or.inr (by decide)) (Or.inr (by decide)) (Or.inr (by decide))).trans pf1
      have pf2 := (yz25125.1 _ 29 (Or.inr (by decide)) (Or.inr (by decide)) (Or.inr (by decide))).trans pf2
      have pf4 := (yz25125.1 _ 8 (Or.inr (by decide)) (Or.inr (by decide)) (Or.inr (by decide))).trans pf4
      have hv25113 := (yz25125.1 _ 12 (Or.inr (by decide)) (Or.inr (by decide)) (Or.inr (by decide))).trans hv25113
      have hfr : (∀ b j : Nat, (tag b ≠ 46 ∨ j ≠ 9) → (tag b ≠ 46 ∨ j ≠ 13) → (tag b ≠ 46 ∨ j ≠ 14) → fld F b j = fld Fo b j) ∧ (∀ b j : Nat, elm F b j = elm Fo b j) := ⟨fun b j n46_9 n46_13 n46_14 => (yz25125.1 b j n46_9 n46_13 n46_14).trans (hfr.1 b j n46_9 n46_13 n46_14), fun b j  => (yz25125.2 b j ).trans (hfr.2 b j )⟩
      have hstk := STK.tr hstk stz25125
      have hspt := SPT.tr hspt ptz25125
      refine lv_aload_n hx hb dX13_bounded_33 rfl (lv_at hl 0 rfl) ?_
      refine t_get (C := RX13) (T := TX13) (N := 37) X hT m0 g0 rfl rfl 9 (by decide) qw_478 inlX13 rfl dX13_bounded_34 (fun v25126 hv25126 ov25126 => ?_)
      obtain rfl : v25126 = .int soz25125 := hv25126.symm.trans qsoz25125
      refine lv_iconst (v := 5) hx hb dX13_bounded_37 (by decide) ?_
      refine lv_icmp_ne (tgt := 45) hx hb dX13_bounded_38 (by decide) (fun c25127 => ?_) (fun c25127 => ?_)
      · have w25128 := cv_ne (rfl : soz25125.toInt = soz25125.toInt) (by decide : (5 : Int32).toInt = 5) c25127
        exfalso
        omega
      · have w25129 := cv_eq (rfl : soz25125.toInt = soz25125.toInt) (by decide : (5 : Int32).toInt = 5) c25127
        refine lv_iload_n hx hb dX13_bounded_41 rfl (lv_at hl 1 rfl) ?_
        refine lv_goto (tgt := 49) hx hb dX13_bounded_42 (by decide) ?_
        exact t_iret hQ X hT (⟨(by omega), hfr, ⟨soz25125, spz25125, faz25125, qsoz25125, qspz25125, qfaz25125, (by omega), (by omega), (by omega), hstk, hspt, hkf⟩⟩) (Nat.le_of_ble_eq_true rfl) (Nat.le_of_ble_eq_true rfl) dX13_bounded_49
  · have w25130 := cv_ne (rfl : x3.toInt = x3.toInt) (by decide : (3 : Int32).toInt = 3) c25111
    refine lv_aload_n hx hb dX13_bounded_8 rfl (lv_at hl 0 rfl) ?_
    refine lv_iconst (v := 1) hx hb dX13_bounded_9 (by decide) ?_
    refine t_cVv (n := 1) (C := RX13) (T := TX13) (N := 37) (As := [.int 1]) (rest := []) X hT (km10_X13_flaw l G tag L F hT.2.2.2 p0 1 x0 x1 x2 x3 x4 x5 m0 g0 (by decide) mx0 gx0 pf0 mx1 gx1 pf1 mx2 gx2 pf2 (by omega) pf3 (by omega) pf4 (by omega) pf5 hkf) m0 g0 rfl rfl qw_548 qw_549 qw_550 qw_5 qw_551 ⟨rfl, by decide +kernel, by decide +kernel, by decide +kernel⟩ ⟨Nat.le_of_ble_eq_true rfl, Nat.le_of_ble_eq_true rfl⟩ hl rfl rfl (Nat.le_of_ble_eq_true rfl) dX13_bounded_10 ⟨Nat.le_of_ble_eq_true rfl, Nat.le_of_ble_eq_true rfl⟩ (fun F H locs hT hz25131 => ?_)
    obtain ⟨yz25131, ⟨soz25131, spz25131, faz25131, qsoz25131, qspz25131, qfaz25131, rsoz25131, rspz25131, rfaz25131, stz25131, ptz25131, hkf, pxz25131_0⟩⟩ := hz25131
    have pf0 := (yz25131.1 _ 4 (Or.inr (by decide)) (Or.inr (by decide)) (Or.inr (by decide))).trans pf0
    have pf1 := (yz25131.1 _ 28 (Or.inr (by decide)) (Or.inr (by decide)) (Or.inr (by decide))).trans pf1
    have pf2 := (yz25131.1 _ 29 (Or.inr (by decide)) (Or.inr (by decide)) (Or.inr (by decide))).trans pf2
    have pf4 := (yz25131.1 _ 8 (Or.inr (by decide)) (Or.inr (by decide)) (Or.inr (by decide))).trans pf4
    have hfr : (∀ b j : Nat, (tag b ≠ 46 ∨ j ≠ 9) → (tag b ≠ 46 ∨ j ≠ 13) → (tag b ≠ 46 ∨ j ≠ 14) → fld F b j = fld Fo b j) ∧ (∀ b j : Nat, elm F b j = elm Fo b j) := ⟨fun b j n46_9 n46_13 n46_14 => (yz25131.1 b j n46_9 n46_13 n46_14).trans (hfr.1 b j n46_9 n46_13 n46_14), fun b j  => (yz25131.2 b j ).trans (hfr.2 b j )⟩
    have hstk := STK.tr hstk stz25131
    have hspt := SPT.tr hspt ptz25131
    refine lv_goto (tgt := 33) hx hb dX13_bounded_13 (by decide) ?_
    refine lv_aload_n hx hb dX13_bounded_33 rfl (lv_at hl 0 rfl) ?_
    refine t_get (C := RX13) (T := TX13) (N := 37) X hT m0 g0 rfl rfl 9 (by decide) qw_478 inlX13 rfl dX13_bounded_34 (fun v25132 hv25132 ov25132 => ?_)
    obtain rfl : v25132 = .int soz25131 := hv25132.symm.trans qsoz25131
    refine lv_iconst (v := 5) hx hb dX13_bounded_37 (by decide) ?_
    refine lv_icmp_ne (tgt := 45) hx hb dX13_bounded_38 (by decide) (fun c25133 => ?_) (fun c25133 => ?_)
    · have w25134 := cv_ne (rfl : soz25131.toInt = soz25131.toInt) (by decide : (5 : Int32).toInt = 5) c25133
      exfalso
      omega
    · have w25135 := cv_eq (rfl : soz25131.toInt = soz25131.toInt) (by decide : (5 : Int32).toInt = 5) c25133
      refine lv_iload_n hx hb dX13_bounded_41 rfl (lv_at hl 1 rfl) ?_
      refine lv_goto (tgt := 49) hx hb dX13_bounded_42 (by decide) ?_
      exact t_iret hQ X hT (⟨(by omega), hfr, ⟨soz25131, spz25131, faz25131, qsoz25131, qspz25131, qfaz25131, (by omega), (by omega), (by omega), hstk, hspt, hkf⟩⟩) (Nat.le_of_ble_eq_true rfl) (Nat.le_of_ble_eq_true rfl) dX13_bounded_49
