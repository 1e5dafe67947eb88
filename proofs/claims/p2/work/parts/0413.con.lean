set_option maxHeartbeats 4000000 in
set_option maxRecDepth 100000 in
theorem km69_X13_readWater (l : Launch) (G : KG) (tag : Nat → Nat) (L : List Nat) (Fo : Nat → va_E) (ho : okT G ttC tag L Fo) (p0 : Nat) (x0 : Nat) (x1 : Nat) (x2 : Nat) (x3 : Int32) (x4 : Int32) (x5 : Int32) (m0 : p0 ∈ L) (g0 : tag p0 = 46) (mx0 : x0 ∈ L) (gx0 : tag x0 = 44) (pf0 : fld Fo p0 4 = .ref x0) (mx1 : x1 ∈ L) (gx1 : tag x1 = 35) (pf1 : fld Fo x0 28 = .ref x1) (mx2 : x2 ∈ L) (gx2 : tag x2 = 36) (pf2 : fld Fo x0 29 = .ref x2) (hx3 : 0 ≤ x3.toInt ∧ x3.toInt ≤ 5) (pf3 : fld Fo p0 9 = .int x3) (hx4 : 0 ≤ x4.toInt ∧ x4.toInt ≤ 1000) (pf4 : fld Fo p0 8 = .int x4) (hx5 : 0 ≤ x5.toInt ∧ x5.toInt ≤ 7) (pf5 : fld Fo p0 13 = .int x5) (hkf : KF x3 x5) : TMv l yX13_readWater cX13_readWater 2 { frames := 4, cells := 0, slots := 0, locals := 88 } G ttC tag L Fo [.ref p0] (fun F1 => ((∀ b j : Nat, (tag b ≠ 44 ∨ j ≠ 6) → (tag b ≠ 46 ∨ j ≠ 8) → (tag b ≠ 46 ∨ j ≠ 9) → (tag b ≠ 46 ∨ j ≠ 10) → (tag b ≠ 46 ∨ j ≠ 11) → (tag b ≠ 46 ∨ j ≠ 12) → (tag b ≠ 46 ∨ j ≠ 13) → (tag b ≠ 46 ∨ j ≠ 14) → (tag b ≠ 46 ∨ j ≠ 15) → fld F1 b j = fld Fo b j) ∧ (∀ b j : Nat, tag b ≠ 28 → elm F1 b j = elm Fo b j)) ∧ (∃ so sp fa : Int32, fld F1 p0 9 = .int so ∧ fld F1 p0 8 = .int sp ∧ fld F1 p0 13 = .int fa ∧ (0 ≤ so.toInt ∧ so.toInt ≤ 5) ∧ (0 ≤ sp.toInt ∧ sp.toInt ≤ 1000) ∧ (0 ≤ fa.toInt ∧ fa.toInt ≤ 7) ∧ STK x3 so ∧ SPT x3 x4 so sp ∧ KF so fa)) := by
  refine t_bodyv (y := yX13_readWater) (cd := cX13_readWater) (mL := 2) (rm := { frames := 4, cells := 0, slots := 0, locals := 88 }) (av := [.ref p0]) (by decide) (Nat.le_of_ble_eq_true rfl) ho ?_
  intro p e s m args below meth c ls A Q hQ X hT hl
  have hx := X.1.1
  have hb := X.1.2.1
  have hl : lv_has ls 2 [(0, .ref p0)] := hl
  obtain ⟨F, hFo⟩ : ∃ F : Nat → va_E, F = Fo := ⟨_, rfl⟩
  rw [← hFo] at hT pf0 pf1 pf2 pf3 pf4 pf5
  have hfr : (∀ b j : Nat, (tag b ≠ 44 ∨ j ≠ 6) → (tag b ≠ 46 ∨ j ≠ 8) → (tag b ≠ 46 ∨ j ≠ 9) → (tag b ≠ 46 ∨ j ≠ 10) → (tag b ≠ 46 ∨ j ≠ 11) → (tag b ≠ 46 ∨ j ≠ 12) → (tag b ≠ 46 ∨ j ≠ 13) → (tag b ≠ 46 ∨ j ≠ 14) → (tag b ≠ 46 ∨ j ≠ 15) → fld F b j = fld Fo b j) ∧ (∀ b j : Nat, tag b ≠ 28 → elm F b j = elm Fo b j) := by
    rw [hFo]
    exact ⟨by intros; rfl, by intros; rfl⟩
  have hstk : STK x3 x3 := STK.rf
  have hspt : SPT x3 x4 x3 x4 := SPT.rf
  have K77 : ∀ (z24583 : Int32) (z24584 : Int32) (z24585 : Int32) (z24586 : Int32) (z24587 : Int32) (z24588 : Int32) (F : Nat → va_E) (H : Heap) (locs : List Loc) (ls : Array Slot), (0 ≤ z24583.toInt ∧ z24583.toInt ≤ 143) → (0 ≤ z24585.toInt ∧ z24585.toInt ≤ 12) → (0 ≤ z24586.toInt ∧ z24586.toInt ≤ 5) → (0 ≤ z24587.toInt ∧ z24587.toInt ≤ 1000) → (0 ≤ z24588.toInt ∧ z24588.toInt ≤ 7) → TH G ttC A s tag L F H locs → ((∀ b j : Nat, (tag b ≠ 44 ∨ j ≠ 6) → (tag b ≠ 46 ∨ j ≠ 8) → (tag b ≠ 46 ∨ j ≠ 9) → (tag b ≠ 46 ∨ j ≠ 10) → (tag b ≠ 46 ∨ j ≠ 11) → (tag b ≠ 46 ∨ j ≠ 12) → (tag b ≠ 46 ∨ j ≠ 13) → (tag b ≠ 46 ∨ j ≠ 14) → (tag b ≠ 46 ∨ j ≠ 15) → fld F b j = fld Fo b j) ∧ (∀ b j : Nat, tag b ≠ 28 → elm F b j = elm Fo b j)) → (fld F p0 4 = .ref x0) → (fld F x0 28 = .ref x1) → (fld F x0 29 = .ref x2) → (fld F x0 6 = .int z24584) → (fld F x0 0 = .int z24585) → (fld F p0 9 = .int z24586) → (fld F p0 8 = .int z24587) → (fld F p0 13 = .int z24588) → (STK x3 z24586) → (SPT x3 x4 z24586 z24587) → (KF z24586 z24588) → lv_has ls 2 [(0, .ref p0), (1, .int z24583)] → W p l e { frames := 4, cells := 0, slots := 0, locals := 88 } s m args below meth c H locs 0 0 Q (F0 m 77 ls []) := by
    intro z24583 z24584 z24585 z24586 z24587 z24588 F H locs ls rz24583 rz24585 rz24586 rz24587 rz24588 hT hfr pf0 pf1 pf2 qz24584 qz24585 qz24586 qz24587 qz24588 hstk hspt hkf hl
    have rz24584 := rg_all z24584
    refine lv_aload_n hx hb dX13_readWater_77 rfl (lv_at hl 0 rfl) ?_
    refine t_cVv (n := 0) (C := RX13) (T := TX13) (N := 37) (As := []) (rest := []) X hT (km14_X13_goesOn l G tag L F hT.2.2.2 p0 x0 x1 x2 z24586 z24587 z24588 m0 g0 mx0 gx0 pf0 mx1 gx1 pf1 mx2 gx2 pf2 (by omega) qz24586 (by omega) qz24587 (by omega) qz24588 hkf) m0 g0 rfl rfl qw_508 qw_509 qw_510 qw_5 qw_511 ⟨rfl, by decide +kernel, by decide +kernel, by decide +kernel⟩ ⟨Nat.le_of_ble_eq_true rfl, Nat.le_of_ble_eq_true rfl⟩ hl rfl rfl (Nat.le_of_ble_eq_true rfl) dX13_readWater_78 ⟨Nat.le_of_ble_eq_true rfl, Nat.le_of_ble_eq_true rfl⟩ (fun F H locs hT hz24589 => ?_)
    obtain ⟨yz24589, ⟨soz24589, spz24589, faz24589, qsoz24589, qspz24589, qfaz24589, rsoz24589, rspz24589, rfaz24589, stz24589, ptz24589, hkf⟩⟩ := hz24589
    have qz24584 := (yz24589.1 _ 6 (Or.inr (by decide)) (Or.inr (by decide)) (Or.inr (by decide)) (Or.inr (by decide)) (Or.inr (by decide)) (Or.inr (by decide))).trans qz24584
    have qz24585 := (yz24589.1 _ 0 (Or.inr (by decide)) (Or.inr (by decide)) (Or.inr (by decide)) (Or.inr (by decide)) (Or.inr (by decide)) (Or.inr (by decide))).trans qz24585
    have qz24588 := (yz24589.1 _ 13 (Or.inr (by decide)) (Or.inr (by decide)) (Or.inr (by decide)) (Or.inr (by decide)) (Or.inr (by decide)) (Or.inr (by decide))).trans qz24588
    have pf0 := (yz24589.1 _ 4 (Or.inr (by decide)) (Or.inr (by decide)) (Or.inr (by decide)) (Or.inr (by decide)) (Or.inr (by decide)) (Or.inr (by decide))).trans pf0
    have pf1 := (yz24589.1 _ 28 (Or.inr (by decide)) (Or.inr (by decide)) (Or.inr (by decide)) (Or.inr (by decide)) (Or.inr (by decide)) (Or.inr (by decide))).trans pf1
    have pf2 := (yz24589.1 _ 29 (Or.inr (by decide)) (Or.inr (by decide)) (Or.inr (by decide)) (Or.inr (by decide)) (Or.inr (by decide)) (Or.inr (by decide))).trans pf2
    have hfr : (∀ b j : Nat, (tag b ≠ 44 ∨ j ≠ 6) → (tag b ≠ 46 ∨ j ≠ 8) → (tag b ≠ 46 ∨ j ≠ 9) → (tag b ≠ 46 ∨ j ≠ 10) → (tag b ≠ 46 ∨ j ≠ 11) → (tag b ≠ 46 ∨ j ≠ 12) → (tag b ≠ 46 ∨ j ≠ 13) → (tag b ≠ 46 ∨ j ≠ 14) → (tag b ≠ 46 ∨ j ≠ 15) → fld F b j = fld Fo b j) ∧ (∀ b j : Nat, tag b ≠ 28 → elm F b j = elm Fo b j) := ⟨fun b j n44_6 n46_8 n46_9 n46_10 n46_11 n46_12 n46_13 n46_14 n46_15 => (yz24589.1 b j n46_8 n46_9 n46_10 n46_11 n46_12 n46_15).trans (hfr.1 b j n44_6 n46_8 n46_9 n46_10 n46_11 n46_12 n46_13 n46_14 n46_15), fun b j a28 => (yz24589.2 b j ).trans (hfr.2 b j a28)⟩
    have hstk := STK.tr hstk stz24589
    have hspt := SPT.tr hspt ptz24589
    refine lv_aload_n hx hb dX13_readWater_81 rfl (lv_at hl 0 rfl) ?_
    refine t_get (C := RX13) (T := TX13) (N := 37) X hT m0 g0 rfl rfl 9 (by decide) qw_478 inlX13 rfl dX13_readWater_82 (fun v24590 hv24590 ov24590 => ?_)
    obtain rfl : v24590 = .int soz24589 := hv24590.symm.trans qsoz24589
    refine lv_iconst (v := 5) hx hb dX13_readWater_85 (by decide) ?_
    refine lv_icmp_ne (tgt := 90) hx hb dX13_readWater_86 (by decide) (fun c24591 => ?_) (fun c24591 => ?_)
    · have w24592 := cv_ne (rfl : soz24589.toInt = soz24589.toInt) (by decide : (5 : Int32).toInt = 5) c24591
      refine lv_aload_n hx hb dX13_readWater_90 rfl (lv_at hl 0 rfl) ?_
      refine t_get (C := RX13) (T := TX13) (N := 37) X hT m0 g0 rfl rfl 4 (by decide) qw_477 inlX13 rfl dX13_readWater_91 (fun v24593 hv24593 ov24593 => ?_)
      obtain rfl : v24593 = .ref x0 := hv24593.symm.trans pf0
      refine t_getN (C := RX12) (T := TX12) (N := 31) X hT mx0 gx0 rfl rfl 15 (by decide) (List.mem_of_getElem? (i := 19) rfl) inlX12 rfl dX13_readWater_94 (fun v24594 hv24594 ov24594 => ?_)
      obtain ⟨b24595, rfl, mb24595, gb24595⟩ := okV_r ov24594
      have gb24595 : tag b24595 = 28 := tg_of gb24595
      refine lv_iload_n hx hb dX13_readWater_97 rfl (lv_at hl 1 rfl) ?_
      refine lv_iconst (v := 1) hx hb dX13_readWater_98 (by decide) ?_
      refine t_zst X hT mb24595 gb24595 rfl (by omega) (show 0 ≤ (vp_nar .boolean 1).toInt ∧ (vp_nar .boolean 1).toInt ≤ 1 from (by decide)) dX13_readWater_99 (fun F H locs hT v24596 h1v24596 h2v24596 => ?_)
      have qz24584 := (h2v24596 _ _).trans qz24584
      have qz24585 := (h2v24596 _ _).trans qz24585
      have qfaz24589 := (h2v24596 _ _).trans qfaz24589
      have pf0 := (h2v24596 _ _).trans pf0
      have pf1 := (h2v24596 _ _).trans pf1
      have pf2 := (h2v24596 _ _).trans pf2
      have qsoz24589 := (h2v24596 _ _).trans qsoz24589
      have qspz24589 := (h2v24596 _ _).trans qspz24589
      have hv24594 := (h2v24596 _ _).trans hv24594
      have hfr : (∀ b j : Nat, (tag b ≠ 44 ∨ j ≠ 6) → (tag b ≠ 46 ∨ j ≠ 8) → (tag b ≠ 46 ∨ j ≠ 9) → (tag b ≠ 46 ∨ j ≠ 10) → (tag b ≠ 46 ∨ j ≠ 11) → (tag b ≠ 46 ∨ j ≠ 12) → (tag b ≠ 46 ∨ j ≠ 13) → (tag b ≠ 46 ∨ j ≠ 14) → (tag b ≠ 46 ∨ j ≠ 15) → fld F b j = fld Fo b j) ∧ (∀ b j : Nat, tag b ≠ 28 → elm F b j = elm Fo b j) := ⟨fun b j n44_6 n46_8 n46_9 n46_10 n46_11 n46_12 n46_13 n46_14 n46_15 => (h2v24596 b j).trans (hfr.1 b j n44_6 n46_8 n46_9 n46_10 n46_11 n46_12 n46_13 n46_14 n46_15), fun b j a28 => (h1v24596 b j (Or.inl (at_ne gb24595 a28))).trans (hfr.2 b j a28)⟩
      refine lv_aload_n hx hb dX13_readWater_100 rfl (lv_at hl 0 rfl) ?_
      refine t_get (C := RX13) (T := TX13) (N := 37) X hT m0 g0 rfl rfl 4 (by decide) qw_477 inlX13 rfl dX13_readWater_101 (fun v24597 hv24597 ov24597 => ?_)
      obtain rfl : v24597 = .ref x0 := hv24597.symm.trans pf0
      refine lv_dup hx hb dX13_readWater_104 rfl ?_
      refine t_getN (C := RX12) (T := TX12) (N := 31) X hT mx0 gx0 rfl rfl 6 (by decide) (List.mem_of_getElem? (i := 10) rfl) inlX12 rfl dX13_readWater_105 (fun v24598 hv24598 ov24598 => ?_)
      obtain rfl : v24598 = .int z24584 := hv24598.symm.trans qz24584
      refine lv_iconst (v := 1) hx hb dX13_readWater_108 (by decide) ?_
      refine lv_iadd hx hb dX13_readWater_109 ?_
      refine lv_topi (fun z24599 ez24599 => ?_)
      have rz24599 := rg_all z24599
      refine t_putN (C := RX12) (T := TX12) (N := 31) (v := .int z24599) X hT mx0 gx0 rfl tyX12 tyX12_ok nmX12 rfl 6 (by decide) (List.mem_of_getElem? (i := 10) rfl) inlX12 rfl (by first | rfl | decide) (by first | rfl | decide) rfl (⟨_, rfl, (show (-2147483648) ≤ (z24599 : Int32).toInt from (by omega)), (show (z24599 : Int32).toInt ≤ 2147483647 from (by omega))⟩) dX13_readWater_110 (fun F H locs hT v24600 h1v24600 h2v24600 => ?_)
      have qz24585 := (h1v24600 _ _ (Or.inr (by decide))).trans qz24585
      have qfaz24589 := (h1v24600 _ _ (Or.inr (by decide))).trans qfaz24589
      have pf0 := (h1v24600 _ _ (Or.inr (by decide))).trans pf0
      have pf1 := (h1v24600 _ _ (Or.inr (by decide))).trans pf1
      have pf2 := (h1v24600 _ _ (Or.inr (by decide))).trans pf2
      have qsoz24589 := (h1v24600 _ _ (Or.inr (by decide))).trans qsoz24589
      have qspz24589 := (h1v24600 _ _ (Or.inr (by decide))).trans qspz24589
      have hv24594 := (h1v24600 _ _ (Or.inr (by decide))).trans hv24594
      have hfr : (∀ b j : Nat, (tag b ≠ 44 ∨ j ≠ 6) → (tag b ≠ 46 ∨ j ≠ 8) → (tag b ≠ 46 ∨ j ≠ 9) → (tag b ≠ 46 ∨ j ≠ 10) → (tag b ≠ 46 ∨ j ≠ 11) → (tag b ≠ 46 ∨ j ≠ 12) → (tag b ≠ 46 ∨ j ≠ 13) → (tag b ≠ 46 ∨ j ≠ 14) → (tag b ≠ 46 ∨ j ≠ 15) → fld F b j = fld Fo b j) ∧ (∀ b j : Nat, tag b ≠ 28 → elm F b j = elm Fo b j) := ⟨fun b j n44_6 n46_8 n46_9 n46_10 n46_11 n46_12 n46_13 n46_14 n46_15 => (h1v24600 b j (fr_ne gx0 n44_6)).trans (hfr.1 b j n44_6 n46_8 n46_9 n46_10 n46_11 n46_12 n46_13 n46_14 n46_15), fun b j a28 => (h2v24600 b j).trans (hfr.2 b j a28)⟩
      exact t_vret hQ X hT ⟨hfr, ⟨soz24589, spz24589, faz24589, qsoz24589, qspz24589, qfaz24589, (by omega), (by omega), (by omega), hstk, hspt, hkf⟩⟩ (Nat.le_of_ble_eq_true rfl) (Nat.le_of_ble_eq_true rfl) dX13_readWater_113
    · have w24601 := cv_eq (rfl : soz24589.toInt = soz24589.toInt) (by decide : (5 : Int32).toInt = 5) c24591
      exact t_vret hQ X hT ⟨hfr, ⟨soz24589, spz24589, faz24589, qsoz24589, qspz24589, qfaz24589, (by omega), (by omega), (by omega), hstk, hspt, hkf⟩⟩ (Nat.le_of_ble_eq_true rfl) (Nat.le_of_ble_eq_true rfl) dX13_readWater_89
  have K43 : ∀ (z24602 : Int32) (z24603 : Int32) (z24604 : Int32) (z24605 : Int32) (z24606 : Int32) (F : Nat → va_E) (H : Heap) (locs : List Loc) (ls : Array Slot), (0 ≤ z24602.toInt ∧ z24602.toInt ≤ 5) → (0 ≤ z24603.toInt ∧ z24603.toInt ≤ 1000) → (0 ≤ z24604.toInt ∧ z24604.toInt ≤ 7) → (0 ≤ z24606.toInt ∧ z24606.toInt ≤ 12) → TH G ttC A s tag L F H locs → ((∀ b j : Nat, (tag b ≠ 44 ∨ j ≠ 6) → (tag b ≠ 46 ∨ j ≠ 8) → (tag b ≠ 46 ∨ j ≠ 9) → (tag b ≠ 46 ∨ j ≠ 10) → (tag b ≠ 46 ∨ j ≠ 11) → (tag b ≠ 46 ∨ j ≠ 12) → (tag b ≠ 46 ∨ j ≠ 13) → (tag b ≠ 46 ∨ j ≠ 14) → (tag b ≠ 46 ∨ j ≠ 15) → fld F b j = fld Fo b j) ∧ (∀ b j : Nat, tag b ≠ 28 → elm F b j = elm Fo b j)) → (fld F p0 4 = .ref x0) → (fld F x0 28 = .ref x1) → (fld F x0 29 = .ref x2) → (fld F p0 9 = .int z24602) → (fld F p0 8 = .int z24603) → (fld F p0 13 = .int z24604) → (fld F x0 6 = .int z24605) → (fld F x0 0 = .int z24606) → (STK x3 z24602) → (SPT x3 x4 z24602 z24603) → (KF z24602 z24604) → lv_has ls 2 [(0, .ref p0)] → W p l e { frames := 4, cells := 0, slots := 0, locals := 88 } s m args below meth c H locs 0 0 Q (F0 m 43 ls []) := by
    intro z24602 z24603 z24604 z24605 z24606 F H locs ls rz24602 rz24603 rz24604 rz24606 hT hfr pf0 pf1 pf2 qz24602 qz24603 qz24604 qz24605 qz24606 hstk hspt hkf hl
    have rz24605 := rg_all z24605
    refine lv_aload_n hx hb dX13_readWater_43 rfl (lv_at hl 0 rfl) ?_
    refine t_cVv (n := 0) (C := RX13) (T := TX13) (N := 37) (As := []) (rest := []) X hT (km14_X13_goesOn l G tag L F hT.2.2.2 p0 x0 x1 x2 z24602 z24603 z24604 m0 g0 mx0 gx0 pf0 mx1 gx1 pf1 mx2 gx2 pf2 (by omega) qz24602 (by omega) qz24603 (by omega) qz24604 hkf) m0 g0 rfl rfl qw_508 qw_509 qw_510 qw_5 qw_511 ⟨rfl, by decide +kernel, by decide +kernel, by decide +kernel⟩ ⟨Nat.le_of_ble_eq_true rfl, Nat.le_of_ble_eq_true rfl⟩ hl rfl rfl (Nat.le_of_ble_eq_true rfl) dX13_readWater_44 ⟨Nat.le_of_ble_eq_true rfl, Nat.le_of_ble_eq_true rfl⟩ (fun F H locs hT hz24607 => ?_)
    obtain ⟨yz24607, ⟨soz24607, spz24607, faz24607, qsoz24607, qspz24607, qfaz24607, rsoz24607, rspz24607, rfaz24607, stz24607, ptz24607, hkf⟩⟩ := hz24607
    have qz24604 := (yz24607.1 _ 13 (Or.inr (by decide)) (Or.inr (by decide)) (Or.inr (by decide)) (Or.inr (by decide)) (Or.inr (by decide)) (Or.inr (by decide))).trans qz24604
    have qz24605 := (yz24607.1 _ 6 (Or.inr (by decide)) (Or.inr (by decide)) (Or.inr (by decide)) (Or.inr (by decide)) (Or.inr (by decide)) (Or.inr (by decide))).trans qz24605
    have qz24606 := (yz24607.1 _ 0 (Or.inr (by decide)) (Or.inr (by decide)) (Or.inr (by decide)) (Or.inr (by decide)) (Or.inr (by decide)) (Or.inr (by decide))).trans qz24606
    have pf0 := (yz24607.1 _ 4 (Or.inr (by decide)) (Or.inr (by decide)) (Or.inr (by decide)) (Or.inr (by decide)) (Or.inr (by decide)) (Or.inr (by decide))).trans pf0
    have pf1 := (yz24607.1 _ 28 (Or.inr (by decide)) (Or.inr (by decide)) (Or.inr (by decide)) (Or.inr (by decide)) (Or.inr (by decide)) (Or.inr (by decide))).trans pf1
    have pf2 := (yz24607.1 _ 29 (Or.inr (by decide)) (Or.inr (by decide)) (Or.inr (by decide)) (Or.inr (by decide)) (Or.inr (by decide)) (Or.inr (by decide))).trans pf2
    have hfr : (∀ b j : Nat, (tag b ≠ 44 ∨ j ≠ 6) → (tag b ≠ 46 ∨ j ≠ 8) → (tag b ≠ 46 ∨ j ≠ 9) → (tag b ≠ 46 ∨ j ≠ 10) → (tag b ≠ 46 ∨ j ≠ 11) → (tag b ≠ 46 ∨ j ≠ 12) → (tag b ≠ 46 ∨ j ≠ 13) → (tag b ≠ 46 ∨ j ≠ 14) → (tag b ≠ 46 ∨ j ≠ 15) → fld F b j = fld Fo b j) ∧ (∀ b j : Nat, tag b ≠ 28 → elm F b j = elm Fo b j) := ⟨fun b j n44_6 n46_8 n46_9 n46_10 n46_11 n46_12 n46_13 n46_14 n46_15 => (yz24607.1 b j n46_8 n46_9 n46_10 n46_11 n46_12 n46_15).trans (hfr.1 b j n44_6 n46_8 n46_9 n46_10 n46_11 n46_12 n46_13 n46_14 n46_15), fun b j a28 => (yz24607.2 b j ).trans (hfr.2 b j a28)⟩
    have hstk := STK.tr hstk stz24607
    have hspt := SPT.tr hspt ptz24607
    refine lv_aload_n hx hb dX13_readWater_47 rfl (lv_at hl 0 rfl) ?_
    refine t_cVi (n := 0) (C := RX13) (T := TX13) (N := 37) (As := []) (rest := []) X hT (km55_X13_knownCell l G tag L F hT.2.2.2 p0 x0 x1 x2 soz24607 spz24607 faz24607 m0 g0 mx0 gx0 pf0 mx1 gx1 pf1 mx2 gx2 pf2 (by omega) qsoz24607 (by omega) qspz24607 (by omega) qfaz24607 hkf) m0 g0 rfl rfl qw_583 qw_584 qw_585 qw_5 qw_586 ⟨rfl, by decide +kernel, by decide +kernel, by decide +kernel⟩ ⟨Nat.le_of_ble_eq_true rfl, Nat.le_of_ble_eq_true rfl⟩ hl rfl rfl (Nat.le_of_ble_eq_true rfl) dX13_readWater_48 ⟨Nat.le_of_ble_eq_true rfl, Nat.le_of_ble_eq_true rfl⟩ (fun z24608 F H locs hT hz24608 => ?_)
    obtain ⟨hz24608, yz24608, ⟨soz24608, spz24608, faz24608, qsoz24608, qspz24608, qfaz24608, rsoz24608, rspz24608, rfaz24608, stz24608, ptz24608, hkf⟩⟩ := hz24608
    have qz24605 := (yz24608.1 _ 6 (Or.inr (by decide)) (Or.inr (by decide)) (Or.inr (by decide)) (Or.inr (by decide)) (Or.inr (by decide)) (Or.inr (by decide)) (Or.inr (by decide)) (Or.inr (by decide))).trans qz24605
    have qz24606 := (yz24608.1 _ 0 (Or.inr (by decide)) (Or.inr (by decide)) (Or.inr (by decide)) (Or.inr (by decide)) (Or.inr (by decide)) (Or.inr (by decide)) (Or.inr (by decide)) (Or.inr (by decide))).trans qz24606
    have pf0 := (yz24608.1 _ 4 (Or.inr (by decide)) (Or.inr (by decide)) (Or.inr (by decide)) (Or.inr (by decide)) (Or.inr (by decide)) (Or.inr (by decide)) (Or.inr (by decide)) (Or.inr (by decide))).trans pf0
    have pf1 := (yz24608.1 _ 28 (Or.inr (by decide)) (Or.inr (by decide)) (Or.inr (by decide)) (Or.inr (by decide)) (Or.inr (by decide)) (Or.inr (by decide)) (Or.inr (by decide)) (Or.inr (by decide))).trans pf1
    have pf2 := (yz24608.1 _ 29 (Or.inr (by decide)) (Or.inr (by decide)) (Or.inr (by decide)) (Or.inr (by decide)) (Or.inr (by decide)) (Or.inr (by decide)) (Or.inr (by decide)) (Or.inr (by decide))).trans pf2
    have hfr : (∀ b j : Nat, (tag b ≠ 44 ∨ j ≠ 6) → (tag b ≠ 46 ∨ j ≠ 8) → (tag b ≠ 46 ∨ j ≠ 9) → (tag b ≠ 46 ∨ j ≠ 10) → (tag b ≠ 46 ∨ j ≠ 11) → (tag b ≠ 46 ∨ j ≠ 12) → (tag b ≠ 46 ∨ j ≠ 13) → (tag b ≠ 46 ∨ j ≠ 14) → (tag b ≠ 46 ∨ j ≠ 15) → fld F b j = fld Fo b j) ∧ (∀ b j : Nat, tag b ≠ 28 → elm F b j = elm Fo b j) := ⟨fun b j n44_6 n46_8 n46_9 n46_10 n46_11 n46_12 n46_13 n46_14 n46_15 => (yz24608.1 b j n46_8 n46_9 n46_10 n46_11 n46_12 n46_13 n46_14 n46_15).trans (hfr.1 b j n44_6 n46_8 n46_9 n46_10 n46_11 n46_12 n46_13 n46_14 n46_15), fun b j a28 => (yz24608.2 b j ).trans (hfr.2 b j a28)⟩
    have hstk := STK.tr hstk stz24608
    have hspt := SPT.tr hspt ptz24608
    refine lv_istore_n (lv' := [(1, .int z24608), (0, .ref p0)]) hx hb dX13_readWater_51 rfl hl (by decide) rfl (fun ls hl => ?_)
    refine lv_aload_n hx hb dX13_readWater_52 rfl (lv_at hl 1 rfl) ?_
    refine t_get (C := RX13) (T := TX13) (N := 37) X hT m0 g0 rfl rfl 9 (by decide) qw_478 inlX13 rfl dX13_readWater_53 (fun v24609 hv24609 ov24609 => ?_)
    obtain rfl : v24609 = .int soz24608 := hv24609.symm.trans qsoz24608
    refine lv_iconst (v := 5) hx hb dX13_readWater_56 (by decide) ?_
    refine lv_icmp_eq (tgt := 77) hx hb dX13_readWater_57 (by decide) (fun c24610 => ?_) (fun c24610 => ?_)
    · have w24611 := cv_eq (rfl : soz24608.toInt = soz24608.toInt) (by decide : (5 : Int32).toInt = 5) c24610
      exact K77 z24608 z24605 z24606 soz24608 spz24608 faz24608 _ _ _ _ (by omega) (by omega) (by omega) (by omega) (by omega) hT hfr pf0 pf1 pf2 qz24605 qz24606 qsoz24608 qspz24608 qfaz24608 hstk hspt hkf (lv_sub hl [1, 0] rfl)
    · have w24612 := cv_ne (rfl : soz24608.toInt = soz24608.toInt) (by decide : (5 : Int32).toInt = 5) c24610
      refine lv_aload_n hx hb dX13_readWater_60 rfl (lv_at hl 1 rfl) ?_
      refine t_get (C := RX13) (T := TX13) (N := 37) X hT m0 g0 rfl rfl 4 (by decide) qw_477 inlX13 rfl dX13_readWater_61 (fun v24613 hv24613 ov24613 => ?_)
      obtain rfl : v24613 = .ref x0 := hv24613.symm.trans pf0
      refine t_getN (C := RX12) (T := TX12) (N := 31) X hT mx0 gx0 rfl rfl 15 (by decide) (List.mem_of_getElem? (i := 19) rfl) inlX12 rfl dX13_readWater_64 (fun v24614 hv24614 ov24614 => ?_)
      obtain ⟨b24615, rfl, mb24615, gb24615⟩ := okV_r ov24614
      have gb24615 : tag b24615 = 28 := tg_of gb24615
      refine lv_iload_n hx hb dX13_readWater_67 rfl (lv_at hl 0 rfl) ?_
      refine t_zld X hT mb24615 gb24615 rfl (by omega) dX13_readWater_68 (fun z24616 vz24616 rz24616 => ?_)
      have rz24616 : 0 ≤ z24616.toInt ∧ z24616.toInt ≤ 1 := rz24616
      refine lv_if_eq (tgt := 77) hx hb dX13_readWater_69 (by decide) (fun c24617 => ?_) (fun c24617 => ?_)
      · have w24618 := cv_eq (rfl : z24616.toInt = z24616.toInt) (by decide : (0 : Int32).toInt = 0) c24617
        exact K77 z24608 z24605 z24606 soz24608 spz24608 faz24608 _ _ _ _ (by omega) (by omega) (by omega) (by omega) (by omega) hT hfr pf0 pf1 pf2 qz24605 qz24606 qsoz24608 qspz24608 qfaz24608 hstk hspt hkf (lv_sub hl [1, 0] rfl)
      · have w24619 := cv_ne (rfl : z24616.toInt = z24616.toInt) (by decide : (0 : Int32).toInt = 0) c24617
        refine lv_aload_n hx hb dX13_readWater_72 rfl (lv_at hl 1 rfl) ?_
        refine lv_iconst (v := 3) hx hb dX13_readWater_73 (by decide) ?_
        refine t_cVv (n := 1) (C := RX13) (T := TX13) (N := 37) (As := [.int 3]) (rest := []) X hT (km10_X13_flaw l G tag L F hT.2.2.2 p0 3 x0 x1 x2 soz24608 spz24608 faz24608 m0 g0 (by decide) mx0 gx0 pf0 mx1 gx1 pf1 mx2 gx2 pf2 (by omega) qsoz24608 (by omega) qspz24608 (by omega) qfaz24608 hkf) m0 g0 rfl rfl qw_548 qw_549 qw_550 qw_5 qw_551 ⟨rfl, by decide +kernel, by decide +kernel, by decide +kernel⟩ ⟨Nat.le_of_ble_eq_true rfl, Nat.le_of_ble_eq_true rfl⟩ hl rfl rfl (Nat.le_of_ble_eq_true rfl) dX13_readWater_74 ⟨Nat.le_of_ble_eq_true rfl, Nat.le_of_ble_eq_true rfl⟩ (fun F H locs hT hz24620 => ?_)
        obtain ⟨yz24620, ⟨soz24620, spz24620, faz24620, qsoz24620, qspz24620, qfaz24620, rsoz24620, rspz24620, rfaz24620, stz24620, ptz24620, hkf, pxz24620_0⟩⟩ := hz24620
        have qz24605 := (yz24620.1 _ 6 (Or.inr (by decide)) (Or.inr (by decide)) (Or.inr (by decide))).trans qz24605
        have qz24606 := (yz24620.1 _ 0 (Or.inr (by decide)) (Or.inr (by decide)) (Or.inr (by decide))).trans qz24606
        have pf0 := (yz24620.1 _ 4 (Or.inr (by decide)) (Or.inr (by decide)) (Or.inr (by decide))).trans pf0
        have pf1 := (yz24620.1 _ 28 (Or.inr (by decide)) (Or.inr (by decide)) (Or.inr (by decide))).trans pf1
        have pf2 := (yz24620.1 _ 29 (Or.inr (by decide)) (Or.inr (by decide)) (Or.inr (by decide))).trans pf2
        have qspz24608 := (yz24620.1 _ 8 (Or.inr (by decide)) (Or.inr (by decide)) (Or.inr (by decide))).trans qspz24608
        have hv24614 := (yz24620.1 _ 15 (Or.inr (by decide)) (Or.inr (by decide)) (Or.inr (by decide))).trans hv24614
        have vz24616 := (yz24620.2 _ _ ).trans vz24616
        have hfr : (∀ b j : Nat, (tag b ≠ 44 ∨ j ≠ 6) → (tag b ≠ 46 ∨ j ≠ 8) → (tag b ≠ 46 ∨ j ≠ 9) → (tag b ≠ 46 ∨ j ≠ 10) → (tag b ≠ 46 ∨ j ≠ 11) → (tag b ≠ 46 ∨ j ≠ 12) → (tag b ≠ 46 ∨ j ≠ 13) → (tag b ≠ 46 ∨ j ≠ 14) → (tag b ≠ 46 ∨ j ≠ 15) → fld F b j = fld Fo b j) ∧ (∀ b j : Nat, tag b ≠ 28 → elm F b j = elm Fo b j) := ⟨fun b j n44_6 n46_8 n46_9 n46_10 n46_11 n46_12 n46_13 n46_14 n46_15 => (yz24620.1 b j n46_9 n46_13 n46_14).trans (hfr.1 b j n44_6 n46_8 n46_9 n46_10 n46_11 n46_12 n46_13 n46_14 n46_15), fun b j a28 => (yz24620.2 b j ).trans (hfr.2 b j a28)⟩
        have hstk := STK.tr hstk stz24620
        have hspt := SPT.tr hspt ptz24620
        exact K77 z24608 z24605 z24606 soz24620 spz24620 faz24620 _ _ _ _ (by omega) (by omega) (by omega) (by omega) (by omega) hT hfr pf0 pf1 pf2 qz24605 qz24606 qsoz24620 qspz24620 qfaz24620 hstk hspt hkf (lv_sub hl [1, 0] rfl)
  have K37 : ∀ (z24621 : Int32) (z24622 : Int32) (z24623 : Int32) (z24624 : Int32) (z24625 : Int32) (F : Nat → va_E) (H : Heap) (locs : List Loc) (ls : Array Slot), (0 ≤ z24621.toInt ∧ z24621.toInt ≤ 5) → (0 ≤ z24622.toInt ∧ z24622.toInt ≤ 1000) → (0 ≤ z24623.toInt ∧ z24623.toInt ≤ 7) → (0 ≤ z24625.toInt ∧ z24625.toInt ≤ 12) → TH G ttC A s tag L F H locs → ((∀ b j : Nat, (tag b ≠ 44 ∨ j ≠ 6) → (tag b ≠ 46 ∨ j ≠ 8) → (tag b ≠ 46 ∨ j ≠ 9) → (tag b ≠ 46 ∨ j ≠ 10) → (tag b ≠ 46 ∨ j ≠ 11) → (tag b ≠ 46 ∨ j ≠ 12) → (tag b ≠ 46 ∨ j ≠ 13) → (tag b ≠ 46 ∨ j ≠ 14) → (tag b ≠ 46 ∨ j ≠ 15) → fld F b j = fld Fo b j) ∧ (∀ b j : Nat, tag b ≠ 28 → elm F b j = elm Fo b j)) → (fld F p0 4 = .ref x0) → (fld F x0 28 = .ref x1) → (fld F x0 29 = .ref x2) → (fld F p0 9 = .int z24621) → (fld F p0 8 = .int z24622) → (fld F p0 13 = .int z24623) → (fld F x0 6 = .int z24624) → (fld F x0 0 = .int z24625) → (STK x3 z24621) → (SPT x3 x4 z24621 z24622) → (KF z24621 z24623) → lv_has ls 2 [(0, .ref p0)] → W p l e { frames := 4, cells := 0, slots := 0, locals := 88 } s m args below meth c H locs 0 0 Q (F0 m 37 ls []) := by
    intro z24621 z24622 z24623 z24624 z24625 F H locs ls rz24621 rz24622 rz24623 rz24625 hT hfr pf0 pf1 pf2 qz24621 qz24622 qz24623 qz24624 qz24625 hstk hspt hkf hl
    have rz24624 := rg_all z24624
    refine lv_aload_n hx hb dX13_readWater_37 rfl (lv_at hl 0 rfl) ?_
    refine lv_bipush (v := 6) hx hb dX13_readWater_38 (by decide) ?_
    refine t_cVv (n := 1) (C := RX13) (T := TX13) (N := 37) (As := [.int 6]) (rest := []) X hT (km10_X13_flaw l G tag L F hT.2.2.2 p0 6 x0 x1 x2 z24621 z24622 z24623 m0 g0 (by decide) mx0 gx0 pf0 mx1 gx1 pf1 mx2 gx2 pf2 (by omega) qz24621 (by omega) qz24622 (by omega) qz24623 hkf) m0 g0 rfl rfl qw_548 qw_549 qw_550 qw_5 qw_551 ⟨rfl, by decide +kernel, by decide +kernel, by decide +kernel⟩ ⟨Nat.le_of_ble_eq_true rfl, Nat.le_of_ble_eq_true rfl⟩ hl rfl rfl (Nat.le_of_ble_eq_true rfl) dX13_readWater_40 ⟨Nat.le_of_ble_eq_true rfl, Nat.le_of_ble_eq_true rfl⟩ (fun F H locs hT hz24626 => ?_)
    obtain ⟨yz24626, ⟨soz24626, spz24626, faz24626, qsoz24626, qspz24626, qfaz24626, rsoz24626, rspz24626, rfaz24626, stz24626, ptz24626, hkf, pxz24626_0⟩⟩ := hz24626
    have qz24622 := (yz24626.1 _ 8 (Or.inr (by decide)) (Or.inr (by decide)) (Or.inr (by decide))).trans qz24622
    have qz24624 := (yz24626.1 _ 6 (Or.inr (by decide)) (Or.inr (by decide)) (Or.inr (by decide))).trans qz24624
    have qz24625 := (yz24626.1 _ 0 (Or.inr (by decide)) (Or.inr (by decide)) (Or.inr (by decide))).trans qz24625
    have pf0 := (yz24626.1 _ 4 (Or.inr (by decide)) (Or.inr (by decide)) (Or.inr (by decide))).trans pf0
    have pf1 := (yz24626.1 _ 28 (Or.inr (by decide)) (Or.inr (by decide)) (Or.inr (by decide))).trans pf1
    have pf2 := (yz24626.1 _ 29 (Or.inr (by decide)) (Or.inr (by decide)) (Or.inr (by decide))).trans pf2
    have hfr : (∀ b j : Nat, (tag b ≠ 44 ∨ j ≠ 6) → (tag b ≠ 46 ∨ j ≠ 8) → (tag b ≠ 46 ∨ j ≠ 9) → (tag b ≠ 46 ∨ j ≠ 10) → (tag b ≠ 46 ∨ j ≠ 11) → (tag b ≠ 46 ∨ j ≠ 12) → (tag b ≠ 46 ∨ j ≠ 13) → (tag b ≠ 46 ∨ j ≠ 14) → (tag b ≠ 46 ∨ j ≠ 15) → fld F b j = fld Fo b j) ∧ (∀ b j : Nat, tag b ≠ 28 → elm F b j = elm Fo b j) := ⟨fun b j n44_6 n46_8 n46_9 n46_10 n46_11 n46_12 n46_13 n46_14 n46_15 => (yz24626.1 b j n46_9 n46_13 n46_14).trans (hfr.1 b j n44_6 n46_8 n46_9 n46_10 n46_11 n46_12 n46_13 n46_14 n46_15), fun b j a28 => (yz24626.2 b j ).trans (hfr.2 b j a28)⟩
    have hstk := STK.tr hstk stz24626
    have hspt := SPT.tr hspt ptz24626
    exact K43 soz24626 spz24626 faz24626 z24624 z24625 _ _ _ _ (by omega) (by omega) (by omega) (by omega) hT hfr pf0 pf1 pf2 qsoz24626 qspz24626 qfaz24626 qz24624 qz24625 hstk hspt hkf (lv_sub hl [0] rfl)
  have K17 : ∀ (z24627 : Int32) (z24628 : Int32) (z24629 : Int32) (z24630 : Int32) (F : Nat → va_E) (H : Heap) (locs : List Loc) (ls : Array Slot), (0 ≤ z24627.toInt ∧ z24627.toInt ≤ 5) → (0 ≤ z24628.toInt ∧ z24628.toInt ≤ 1000) → (0 ≤ z24629.toInt ∧ z24629.toInt ≤ 7) → TH G ttC A s tag L F H locs → ((∀ b j : Nat, (tag b ≠ 44 ∨ j ≠ 6) → (tag b ≠ 46 ∨ j ≠ 8) → (tag b ≠ 46 ∨ j ≠ 9) → (tag b ≠ 46 ∨ j ≠ 10) → (tag b ≠ 46 ∨ j ≠ 11) → (tag b ≠ 46 ∨ j ≠ 12) → (tag b ≠ 46 ∨ j ≠ 13) → (tag b ≠ 46 ∨ j ≠ 14) → (tag b ≠ 46 ∨ j ≠ 15) → fld F b j = fld Fo b j) ∧ (∀ b j : Nat, tag b ≠ 28 → elm F b j = elm Fo b j)) → (fld F p0 4 = .ref x0) → (fld F x0 28 = .ref x1) → (fld F x0 29 = .ref x2) → (fld F p0 9 = .int z24627) → (fld F p0 8 = .int z24628) → (fld F p0 13 = .int z24629) → (fld F x0 6 = .int z24630) → (STK x3 z24627) → (SPT x3 x4 z24627 z24628) → (KF z24627 z24629) → lv_has ls 2 [(0, .ref p0)] → W p l e { frames := 4, cells := 0, slots := 0, locals := 88 } s m args below meth c H locs 0 0 Q (F0 m 17 ls []) := by
    intro z24627 z24628 z24629 z24630 F H locs ls rz24627 rz24628 rz24629 hT hfr pf0 pf1 pf2 qz24627 qz24628 qz24629 qz24630 hstk hspt hkf hl
    have rz24630 := rg_all z24630
    refine lv_aload_n hx hb dX13_readWater_17 rfl (lv_at hl 0 rfl) ?_
    refine t_get (C := RX13) (T := TX13) (N := 37) X hT m0 g0 rfl rfl 4 (by decide) qw_477 inlX13 rfl dX13_readWater_18 (fun v24631 hv24631 ov24631 => ?_)
    obtain rfl : v24631 = .ref x0 := hv24631.symm.trans pf0
    refine t_getN (C := RX12) (T := TX12) (N := 31) X hT mx0 gx0 rfl rfl 0 (by decide) (List.mem_of_getElem? (i := 4) rfl) inlX12 rfl dX13_readWater_21 (fun v24632 hv24632 ov24632 => ?_)
    obtain ⟨z24633, rfl, rz24633⟩ := okV_i ov24632
    refine lv_if_eq (tgt := 37) hx hb dX13_readWater_24 (by decide) (fun c24634 => ?_) (fun c24634 => ?_)
    · have w24635 := cv_eq (rfl : z24633.toInt = z24633.toInt) (by decide : (0 : Int32).toInt = 0) c24634
      exact K37 z24627 z24628 z24629 z24630 z24633 _ _ _ _ (by omega) (by omega) (by omega) (by omega) hT hfr pf0 pf1 pf2 qz24627 qz24628 qz24629 qz24630 hv24632 hstk hspt hkf (lv_sub hl [0] rfl)
    · have w24636 := cv_ne (rfl : z24633.toInt = z24633.toInt) (by decide : (0 : Int32).toInt = 0) c24634
      refine lv_aload_n hx hb dX13_readWater_27 rfl (lv_at hl 0 rfl) ?_
      refine t_get (C := RX13) (T := TX13) (N := 37) X hT m0 g0 rfl rfl 4 (by decide) qw_477 inlX13 rfl dX13_readWater_28 (fun v24637 hv24637 ov24637 => ?_)
      obtain rfl : v24637 = .ref x0 := hv24637.symm.trans pf0
      refine t_getN (C := RX12) (T := TX12) (N := 31) X hT mx0 gx0 rfl rfl 8 (by decide) (List.mem_of_getElem? (i := 12) rfl) inlX12 rfl dX13_readWater_31 (fun v24638 hv24638 ov24638 => ?_)
      obtain ⟨z24639, rfl, rz24639⟩ := okV_i ov24638
      refine lv_if_le (tgt := 43) hx hb dX13_readWater_34 (by decide) (fun c24640 => ?_) (fun c24640 => ?_)
      · have w24641 := cv_le (rfl : z24639.toInt = z24639.toInt) (by decide : (0 : Int32).toInt = 0) c24640
        exact K43 z24627 z24628 z24629 z24630 z24633 _ _ _ _ (by omega) (by omega) (by omega) (by omega) hT hfr pf0 pf1 pf2 qz24627 qz24628 qz24629 qz24630 hv24632 hstk hspt hkf (lv_sub hl [0] rfl)
      · have w24642 := cv_nle (rfl : z24639.toInt = z24639.toInt) (by decide : (0 : Int32).toInt = 0) c24640
        exact K37 z24627 z24628 z24629 z24630 z24633 _ _ _ _ (by omega) (by omega) (by omega) (by omega) hT hfr pf0 pf1 pf2 qz24627 qz24628 qz24629 qz24630 hv24632 hstk hspt hkf (lv_sub hl [0] rfl)
  refine lv_aload_n hx hb dX13_readWater_0 rfl (lv_at hl 0 rfl) ?_
  refine t_get (C := RX13) (T := TX13) (N := 37) X hT m0 g0 rfl rfl 4 (by decide) qw_477 inlX13 rfl dX13_readWater_1 (fun v24643 hv24643 ov24643 => ?_)
  obtain rfl : v24643 = .ref x0 := hv24643.symm.trans pf0
  refine t_getN (C := RX12) (T := TX12) (N := 31) X hT mx0 gx0 rfl rfl 6 (by decide) (List.mem_of_getElem? (i := 10) rfl) inlX12 rfl dX13_readWater_4 (fun v24644 hv24644 ov24644 => ?_)
  obtain ⟨z24645, rfl, rz24645⟩ := okV_i ov24644
  refine lv_bipush (v := 10) hx hb dX13_readWater_7 (by decide) ?_
  refine lv_icmp_ne (tgt := 17) hx hb dX13_readWater_9 (by decide) (fun c24646 => ?_) (fun c24646 => ?_)
  · have w24647 := cv_ne (rfl : z24645.toInt = z24645.toInt) (by decide : (10 : Int32).toInt = 10) c24646
    exact K17 x3 x4 x5 z24645 _ _ _ _ (by omega) (by omega) (by omega) hT hfr pf0 pf1 pf2 pf3 pf4 pf5 hv24644 hstk hspt hkf (lv_sub hl [0] rfl)
  · have w24648 := cv_eq (rfl : z24645.toInt = z24645.toInt) (by decide : (10 : Int32).toInt = 10) c24646
    refine lv_aload_n hx hb dX13_readWater_12 rfl (lv_at hl 0 rfl) ?_
    refine lv_iconst (v := 5) hx hb dX13_readWater_13 (by decide) ?_
    refine t_cVv (n := 1) (C := RX13) (T := TX13) (N := 37) (As := [.int 5]) (rest := []) X hT (km10_X13_flaw l G tag L F hT.2.2.2 p0 5 x0 x1 x2 x3 x4 x5 m0 g0 (by decide) mx0 gx0 pf0 mx1 gx1 pf1 mx2 gx2 pf2 (by omega) pf3 (by omega) pf4 (by omega) pf5 hkf) m0 g0 rfl rfl qw_548 qw_549 qw_550 qw_5 qw_551 ⟨rfl, by decide +kernel, by decide +kernel, by decide +kernel⟩ ⟨Nat.le_of_ble_eq_true rfl, Nat.le_of_ble_eq_true rfl⟩ hl rfl rfl (Nat.le_of_ble_eq_true rfl) dX13_readWater_14 ⟨Nat.le_of_ble_eq_true rfl, Nat.le_of_ble_eq_true rfl⟩ (fun F H locs hT hz24649 => ?_)
    obtain ⟨yz24649, ⟨soz24649, spz24649, faz24649, qsoz24649, qspz24649, qfaz24649, rsoz24649, rspz24649, rfaz24649, stz24649, ptz24649, hkf, pxz24649_0⟩⟩ := hz24649
    have pf0 := (yz24649.1 _ 4 (Or.inr (by decide)) (Or.inr (by decide)) (Or.inr (by decide))).trans pf0
    have pf1 := (yz24649.1 _ 28 (Or.inr (by decide)) (Or.inr (by decide)) (Or.inr (by decide))).trans pf1
    have pf2 := (yz24649.1 _ 29 (Or.inr (by decide)) (Or.inr (by decide)) (Or.inr (by decide))).trans pf2
    have pf4 := (yz24649.1 _ 8 (Or.inr (by decide)) (Or.inr (by decide)) (Or.inr (by decide))).trans pf4
    have hv24644 := (yz24649.1 _ 6 (Or.inr (by decide)) (Or.inr (by decide)) (Or.inr (by decide))).trans hv24644
    have hfr : (∀ b j : Nat, (tag b ≠ 44 ∨ j ≠ 6) → (tag b ≠ 46 ∨ j ≠ 8) → (tag b ≠ 46 ∨ j ≠ 9) → (tag b ≠ 46 ∨ j ≠ 10) → (tag b ≠ 46 ∨ j ≠ 11) → (tag b ≠ 46 ∨ j ≠ 12) → (tag b ≠ 46 ∨ j ≠ 13) → (tag b ≠ 46 ∨ j ≠ 14) → (tag b ≠ 46 ∨ j ≠ 15) → fld F b j = fld Fo b j) ∧ (∀ b j : Nat, tag b ≠ 28 → elm F b j = elm Fo b j) := ⟨fun b j n44_6 n46_8 n46_9 n46_10 n46_11 n46_12 n46_13 n46_14 n46_15 => (yz24649.1 b j n46_9 n46_13 n46_14).trans (hfr.1 b j n44_6 n46_8 n46_9 n46_10 n46_11 n46_12 n46_13 n46_14 n46_15), fun b j a28 => (yz24649.2 b j ).trans (hfr.2 b j a28)⟩
    have hstk := STK.tr hstk stz24649
    have hspt := SPT.tr hspt ptz24649
    exact K17 soz24649 spz24649 faz24649 z24645 _ _ _ _ (by omega) (by omega) (by omega) hT hfr pf0 pf1 pf2 qsoz24649 qspz24649 qfaz24649 hv24644 hstk hspt hkf (lv_sub hl [0] rfl)
set_option maxHeartbeats 4000000 in
set_option maxRecDepth 100000 in
theorem km70_X13_bounded (l : Launch) (G : KG) (tag : Nat → Nat) (L : List Nat) (Fo : Nat → va_E) (ho : okT G ttC tag L Fo) (p0 : Nat) (p1 : Int32) (p2 : Int32) (x0 : Nat) (x1 : Nat) (x2 : Nat) (x3 : Int32) (x4 : Int32) (x5 : Int32) (m0 : p0 ∈ L) (g0 : tag p0 = 46) (h1 : 0 ≤ p1.toInt ∧ p1.toInt ≤ 0) (h2 : 900 ≤ p2.toInt ∧ p2.toInt ≤ 900) (mx0 : x0 ∈ L) (gx0 : tag x0 = 44) (pf0 : fld Fo p0 4 = .ref x0) (mx1 : x1 ∈ L) (gx1 : tag x1 = 35) (pf1 : fld Fo x0 28 = .ref x1) (mx2 : x2 ∈ L) (gx2 : tag x2 = 36) (pf2 : fld Fo x0 29 = .ref x2) (hx3 : 0 ≤ x3.toInt ∧ x3.toInt ≤ 5) (pf3 : fld Fo p0 9 = .int x3) (hx4 : 0 ≤ x4.toInt ∧ x4.toInt ≤ 1000) (pf4 : fld Fo p0 8 = .int x4) (hx5 : 0 ≤ x5.toInt ∧ x5.toInt ≤ 7) (pf5 : fld Fo p0 13 = .int x5) (hkf : KF x3 x5) : TMi l yX13_bounded cX13_bounded 3 (some .int) { frames := 1, cells := 0, slots := 0, locals := 22 } G ttC tag L Fo [.ref p0, .int p1, .int p2] (fun r F1 => (0 ≤ r.toInt ∧ r.toInt ≤ 900) ∧ ((∀ b j : Nat, (tag b ≠ 46 ∨ j ≠ 9) → (tag b ≠ 46 ∨ j ≠ 13) → (tag b ≠ 46 ∨ j ≠ 14) → fld F1 b j = fld Fo b j) ∧ (∀ b j : Nat, elm F1 b j = elm Fo b j)) ∧ (∃ so sp fa : Int32, fld F1 p0 9 = .int so ∧ fld F1 p0 8 = .int sp ∧ fld F1 p0 13 = .int fa ∧ (0 ≤ so.toInt ∧ so.toInt ≤ 5) ∧ (0 ≤ sp.toInt ∧ sp.toInt ≤ 1000) ∧ (0 ≤ fa.toInt ∧ fa.toInt ≤ 7) ∧ STK x3 so ∧ SPT x3 x4 so sp ∧ KF so fa)) := by
  refine t_bodyi (y := yX13_bounded) (cd := cX13_bounded) (mL := 3) (rt := (some .int)) (rm := { frames := 1, cells := 0, slots := 0, locals := 22 }) (av := [.ref p0, .int p1, .int p2]) (by decide) (Nat.le_of_ble_eq_true rfl) ho ?_
  intro p e s m args below meth c ls A Q hQ X hT hl
  have hx := X.1.1
  have hb := X.1.2.1
  have hl : lv_has ls 3 [(0, .ref p0), (1, .int p1), (2, .int p2)] := hl
  obtain ⟨F, hFo⟩ : ∃ F : Nat → va_E, F = Fo := ⟨_, rfl⟩
  rw [← hFo] at hT pf0 pf1 pf2 pf3 pf4 pf5
  have hfr : (∀ b j : Nat, (tag b ≠ 46 ∨ j ≠ 9) → (tag b ≠ 46 ∨ j ≠ 13) → (tag b ≠ 46 ∨ j ≠ 14) → fld F b j = fld Fo b j) ∧ (∀ b j : Nat, elm F b j = elm Fo b j) := by
    rw [hFo]
    exact ⟨by intros; rfl, by intros; rfl⟩
  have hstk : STK x3 x3 := STK.rf
  have hspt : SPT x3 x4 x3 x4 := SPT.rf
  refine lv_aload_n hx hb dX13_bounded_0 rfl (lv_at hl 0 rfl) ?_
  refine t_get (C := RX13) (T := TX13) (N := 37) X hT m0 g0 rfl rfl 9 (by decide) qw_478 inlX13 rfl dX13_bounded_1 (fun v24949 hv24949 ov24949 => ?_)
  obtain rfl : v24949 = .int x3 := hv24949.symm.trans pf3
  refine lv_iconst (v := 3) hx hb dX13_bounded_4 (by decide) ?_
  refine lv_icmp_eq (tgt := 16) hx hb dX13_bounded_5 (by decide) (fun c24950 => ?_) (fun c24950 => ?_)
  · have w24951 := cv_eq (rfl : x3.toInt = x3.toInt) (by decide : (3 : Int32).toInt = 3) c24950
    refine lv_aload_n hx hb dX13_bounded_16 rfl (lv_at hl 0 rfl) ?_
    refine t_get (C := RX13) (T := TX13) (N := 37) X hT m0 g0 rfl rfl 12 (by decide) qw_516 inlX13 rfl dX13_bounded_17 (fun v24952 hv24952 ov24952 => ?_)
    obtain ⟨z24953, rfl, rz24953⟩ := okV_i ov24952
    refine lv_iload_n hx hb dX13_bounded_20 rfl (lv_at hl 1 rfl) ?_
    refine lv_iload_n hx hb dX13_bounded_21 rfl (lv_at hl 2 rfl) ?_
    refine t_cSi (n := 3) (As := [.int z24953, .int p1, .int p2]) (rest := []) X hT (km19_X13_within l G tag L F hT.2.2.2 z24953 p1 p2 ) qw_568 qw_569 qw_5 qw_570 ⟨by decide +kernel, by decide +kernel, by decide +kernel⟩ ⟨Nat.le_of_ble_eq_true rfl, Nat.le_of_ble_eq_true rfl⟩ hl rfl rfl (Nat.le_of_ble_eq_true rfl) dX13_bounded_22 ⟨Nat.le_of_ble_eq_true rfl, Nat.le_of_ble_eq_true rfl⟩ (fun z24954 F9 H locs hT hz24954 => ?_)
    obtain ⟨fz24954, hz24954, xz24954_0⟩ := hz24954
    rw [fz24954] at hT
    refine lv_if_ne (tgt := 33) hx hb dX13_bounded_25 (by decide) (fun c24955 => ?_) (fun c24955 => ?_)
    · have w24956 := cv_ne (rfl : z24954.toInt = z24954.toInt) (by decide : (0 : Int32).toInt = 0) c24955
      have w24957 := xz24954_0 (by omega)
      refine lv_aload_n hx hb dX13_bounded_33 rfl (lv_at hl 0 rfl) ?_
      refine t_get (C := RX13) (T := TX13) (N := 37) X hT m0 g0 rfl rfl 9 (by decide) qw_478 inlX13 rfl dX13_bounded_34 (fun v24958 hv24958 ov24958 => ?_)
      obtain rfl : v24958 = .int x3 := hv24958.symm.trans pf3
      refine lv_iconst (v := 5) hx hb dX13_bounded_37 (by decide) ?_
      refine lv_icmp_ne (tgt := 45) hx hb dX13_bounded_38 (by decide) (fun c24959 => ?_) (fun c24959 => ?_)
      · have w24960 := cv_ne (rfl : x3.toInt = x3.toInt) (by decide : (5 : Int32).toInt = 5) c24959
        refine lv_aload_n hx hb dX13_bounded_45 rfl (lv_at hl 0 rfl) ?_
        refine t_get (C := RX13) (T := TX13) (N := 37) X hT m0 g0 rfl rfl 12 (by decide) qw_516 inlX13 rfl dX13_bounded_46 (fun v24961 hv24961 ov24961 => ?_)
        obtain rfl : v24961 = .int z24953 := hv24961.symm.trans hv24952
        exact t_iret hQ X hT (⟨(by omega), hfr, ⟨x3, x4, x5, pf3, pf4, pf5, (by omega), (by omega), (by omega), hstk, hspt, hkf⟩⟩) (Nat.le_of_ble_eq_true rfl) (Nat.le_of_ble_eq_true rfl) dX13_bounded_49
      · have w24962 := cv_eq (rfl : x3.toInt = x3.toInt) (by decide : (5 : Int32).toInt = 5) c24959
        exfalso
        omega
    · have w24963 := cv_eq (rfl : z24954.toInt = z24954.toInt) (by decide : (0 : Int32).toInt = 0) c24955
      refine lv_aload_n hx hb dX13_bounded_28 rfl (lv_at hl 0 rfl) ?_
      refine lv_iconst (v := 4) hx hb dX13_bounded_29 (by decide) ?_
      refine t_cVv (n := 1) (C := RX13) (T := TX13) (N := 37) (As := [.int 4]) (rest := []) X hT (km10_X13_flaw l G tag L F hT.2.2.2 p0 4 x0 x1 x2 x3 x4 x5 m0 g0 (by decide) mx0 gx0 pf0 mx1 gx1 pf1 mx2 gx2 pf2 (by omega) pf3 (by omega) pf4 (by omega) pf5 hkf) m0 g0 rfl rfl qw_548 qw_549 qw_550 qw_5 qw_551 ⟨rfl, by decide +kernel, by decide +kernel, by decide +kernel⟩ ⟨Nat.le_of_ble_eq_true rfl, Nat.le_of_ble_eq_true rfl⟩ hl rfl rfl (Nat.le_of_ble_eq_true rfl) dX13_bounded_30 ⟨Nat.le_of_ble_eq_true rfl, Nat.le_of_ble_eq_true rfl⟩ (fun F H locs hT hz24964 => ?_)
      obtain ⟨yz24964, ⟨soz24964, spz24964, faz24964, qsoz24964, qspz24964, qfaz24964, rsoz24964, rspz24964, rfaz24964, stz24964, ptz24964, hkf, pxz24964_0⟩⟩ := hz24964
      have pf0 := (yz24964.1 _ 4 (Or.inr (by decide)) (Or.inr (by decide)) (Or.inr (by decide))).trans pf0
      have pf1 := (yz24964.1 _ 28 (Or.inr (by decide)) (Or.inr (by decide)) (Or.inr (by decide))).trans pf1
      have pf2 := (yz24964.1 _ 29 (Or.inr (by decide)) (Or.inr (by decide)) (Or.inr (by decide))).trans pf2
      have pf4 := (yz24964.1 _ 8 (Or.inr (by decide)) (Or.inr (by decide)) (Or.inr (by decide))).trans pf4
      have hv24952 := (yz24964.1 _ 12 (Or.inr (by decide)) (Or.inr (by decide)) (Or.inr (by decide))).trans hv24952
      have hfr : (∀ b j : Nat, (tag b ≠ 46 ∨ j ≠ 9) → (tag b ≠ 46 ∨ j ≠ 13) → (tag b ≠ 46 ∨ j ≠ 14) → fld F b j = fld Fo b j) ∧ (∀ b j : Nat, elm F b j = elm Fo b j) := ⟨fun b j n46_9 n46_13 n46_14 => (yz24964.1 b j n46_9 n46_13 n46_14).trans (hfr.1 b j n46_9 n46_13 n46_14), fun b j  => (yz24964.2 b j ).trans (hfr.2 b j )⟩
      have hstk := STK.tr hstk stz24964
      have hspt := SPT.tr hspt ptz24964
      refine lv_aload_n hx hb dX13_bounded_33 rfl (lv_at hl 0 rfl) ?_
      refine t_get (C := RX13) (T := TX13) (N := 37) X hT m0 g0 rfl rfl 9 (by decide) qw_478 inlX13 rfl dX13_bounded_34 (fun v24965 hv24965 ov24965 => ?_)
      obtain rfl : v24965 = .int soz24964 := hv24965.symm.trans qsoz24964
      refine lv_iconst (v := 5) hx hb dX13_bounded_37 (by decide) ?_
      refine lv_icmp_ne (tgt := 45) hx hb dX13_bounded_38 (by decide) (fun c24966 => ?_) (fun c24966 => ?_)
      · have w24967 := cv_ne (rfl : soz24964.toInt = soz24964.toInt) (by decide : (5 : Int32).toInt = 5) c24966
        exfalso
        omega
      · have w24968 := cv_eq (rfl : soz24964.toInt = soz24964.toInt) (by decide : (5 : Int32).toInt = 5) c24966
        refine lv_iload_n hx hb dX13_bounded_41 rfl (lv_at hl 1 rfl) ?_
        refine lv_goto (tgt := 49) hx hb dX13_bounded_42 (by decide) ?_
        exact t_iret hQ X hT (⟨(by omega), hfr, ⟨soz24964, spz24964, faz24964, qsoz24964, qspz24964, qfaz24964, (by omega), (by omega), (by omega), hstk, hspt, hkf⟩⟩) (Nat.le_of_ble_eq_true rfl) (Nat.le_of_ble_eq_true rfl) dX13_bounded_49
  · have w24969 := cv_ne (rfl : x3.toInt = x3.toInt) (by decide : (3 : Int32).toInt = 3) c24950
    refine lv_aload_n hx hb dX13_bounded_8 rfl (lv_at hl 0 rfl) ?_
    refine lv_iconst (v := 1) hx hb dX13_bounded_9 (by decide) ?_
    refine t_cVv (n := 1) (C := RX13) (T := TX13) (N := 37) (As := [.int 1]) (rest := []) X hT (km10_X13_flaw l G tag L F hT.2.2.2 p0 1 x0 x1 x2 x3 x4 x5 m0 g0 (by decide) mx0 gx0 pf0 mx1 gx1 pf1 mx2 gx2 pf2 (by omega) pf3 (by omega) pf4 (by omega) pf5 hkf) m0 g0 rfl rfl qw_548 qw_549 qw_550 qw_5 qw_551 ⟨rfl, by decide +kernel, by decide +kernel, by decide +kernel⟩ ⟨Nat.le_of_ble_eq_true rfl, Nat.le_of_ble_eq_true rfl⟩ hl rfl rfl (Nat.le_of_ble_eq_true rfl) dX13_bounded_10 ⟨Nat.le_of_ble_eq_true rfl, Nat.le_of_ble_eq_true rfl⟩ (fun F H locs hT hz24970 => ?_)
    obtain ⟨yz24970, ⟨soz24970, spz24970, faz24970, qsoz24970, qspz24970, qfaz24970, rsoz24970, rspz24970, rfaz24970, stz24970, ptz24970, hkf, pxz24970_0⟩⟩ := hz24970
    have pf0 := (yz24970.1 _ 4 (Or.inr (by decide)) (Or.inr (by decide)) (Or.inr (by decide))).trans pf0
    have pf1 := (yz24970.1 _ 28 (Or.inr (by decide)) (Or.inr (by decide)) (Or.inr (by decide))).trans pf1
    have pf2 := (yz24970.1 _ 29 (Or.inr (by decide)) (Or.inr (by decide)) (Or.inr (by decide))).trans pf2
    have pf4 := (yz24970.1 _ 8 (Or.inr (by decide)) (Or.inr (by decide)) (Or.inr (by decide))).trans pf4
    have hfr : (∀ b j : Nat, (tag b ≠ 46 ∨ j ≠ 9) → (tag b ≠ 46 ∨ j ≠ 13) → (tag b ≠ 46 ∨ j ≠ 14) → fld F b j = fld Fo b j) ∧ (∀ b j : Nat, elm F b j = elm Fo b j) := ⟨fun b j n46_9 n46_13 n46_14 => (yz24970.1 b j n46_9 n46_13 n46_14).trans (hfr.1 b j n46_9 n46_13 n46_14), fun b j  => (yz24970.2 b j ).trans (hfr.2 b j )⟩
    have hstk := STK.tr hstk stz24970
    have hspt := SPT.tr hspt ptz24970
    refine lv_goto (tgt := 33) hx hb dX13_bounded_13 (by decide) ?_
    refine lv_aload_n hx hb dX13_bounded_33 rfl (lv_at hl 0 rfl) ?_
    refine t_get (C := RX13) (T := TX13) (N := 37) X hT m0 g0 rfl rfl 9 (by decide) qw_478 inlX13 rfl dX13_bounded_34 (fun v24971 hv24971 ov24971 => ?_)
    obtain rfl : v24971 = .int soz24970 := hv24971.symm.trans qsoz24970
    refine lv_iconst (v := 5) hx hb dX13_bounded_37 (by decide) ?_
    refine lv_icmp_ne (tgt := 45) hx hb dX13_bounded_38 (by decide) (fun c24972 => ?_) (fun c24972 => ?_)
    · have w24973 := cv_ne (rfl : soz24970.toInt = soz24970.toInt) (by decide : (5 : Int32).toInt = 5) c24972
      exfalso
      omega
    · have w24974 := cv_eq (rfl : soz24970.toInt = soz24970.toInt) (by decide : (5 : Int32).toInt = 5) c24972
      refine lv_iload_n hx hb dX13_bounded_41 rfl (lv_at hl 1 rfl) ?_
      refine lv_goto (tgt := 49) hx hb dX13_bounded_42 (by decide) ?_
      exact t_iret hQ X hT (⟨(by omega), hfr, ⟨soz24970, spz24970, faz24970, qsoz24970, qspz24970, qfaz24970, (by omega), (by omega), (by omega), hstk, hspt, hkf⟩⟩) (Nat.le_of_ble_eq_true rfl) (Nat.le_of_ble_eq_true rfl) dX13_bounded_49
set_option maxHeartbeats 4000000 in
set_option maxRecDepth 100000 in
theorem km71_X13_readWhole (l : Launch) (G : KG) (tag : Nat → Nat) (L : List Nat) (Fo : Nat → va_E) (ho : okT G ttC tag L Fo) (p0 : Nat) (p1 : Int32) (p2 : Int32) (x0 : Nat) (x1 : Nat) (x2 : Nat) (x3 : Int32) (x4 : Int32) (x5 : Int32) (m0 : p0 ∈ L) (g0 : tag p0 = 46) (h1 : 0 ≤ p1.toInt ∧ p1.toInt ≤ 0) (h2 : 900 ≤ p2.toInt ∧ p2.toInt ≤ 900) (mx0 : x0 ∈ L) (gx0 : tag x0 = 44) (pf0 : fld Fo p0 4 = .ref x0) (mx1 : x1 ∈ L) (gx1 : tag x1 = 35) (pf1 : fld Fo x0 28 = .ref x1) (mx2 : x2 ∈ L) (gx2 : tag x2 = 36) (pf2 : fld Fo x0 29 = .ref x2) (hx3 : 0 ≤ x3.toInt ∧ x3.toInt ≤ 5) (pf3 : fld Fo p0 9 = .int x3) (hx4 : 0 ≤ x4.toInt ∧ x4.toInt ≤ 1000) (pf4 : fld Fo p0 8 = .int x4) (hx5 : 0 ≤ x5.toInt ∧ x5.toInt ≤ 7) (pf5 : fld Fo p0 13 = .int x5) (hkf : KF x3 x5) : TMi l yX13_readWhole cX13_readWhole 4 (some .int) { frames := 2, cells := 0, slots := 0, locals := 44 } G ttC tag L Fo [.ref p0, .int p1, .int p2] (fun r F1 => (0 ≤ r.toInt ∧ r.toInt ≤ 900) ∧ ((∀ b j : Nat, (tag b ≠ 46 ∨ j ≠ 8) → (tag b ≠ 46 ∨ j ≠ 9) → (tag b ≠ 46 ∨ j ≠ 10) → (tag b ≠ 46 ∨ j ≠ 11) → (tag b ≠ 46 ∨ j ≠ 12) → (tag b ≠ 46 ∨ j ≠ 13) → (tag b ≠ 46 ∨ j ≠ 14) → (tag b ≠ 46 ∨ j ≠ 15) → fld F1 b j = fld Fo b j) ∧ (∀ b j : Nat, elm F1 b j = elm Fo b j)) ∧ (∃ so sp fa : Int32, fld F1 p0 9 = .int so ∧ fld F1 p0 8 = .int sp ∧ fld F1 p0 13 = .int fa ∧ (0 ≤ so.toInt ∧ so.toInt ≤ 5) ∧ (0 ≤ sp.toInt ∧ sp.toInt ≤ 1000) ∧ (0 ≤ fa.toInt ∧ fa.toInt ≤ 7) ∧ STK x3 so ∧ SPT x3 x4 so sp ∧ KF so fa)) := by
  refine t_bodyi (y := yX13_readWhole) (cd := cX13_readWhole) (mL := 4) (rt := (some .int)) (rm := { frames := 2, cells := 0, slots := 0, locals := 44 }) (av := [.ref p0, .int p1, .int p2]) (by decide) (Nat.le_of_ble_eq_true rfl) ho ?_
  intro p e s m args below meth c ls A Q hQ X hT hl
  have hx := X.1.1
  have hb := X.1.2.1
  have hl : lv_has ls 4 [(0, .ref p0), (1, .int p1), (2, .int p2)] := hl
  obtain ⟨F, hFo⟩ : ∃ F : Nat → va_E, F = Fo := ⟨_, rfl⟩
  rw [← hFo] at hT pf0 pf1 pf2 pf3 pf4 pf5
  have hfr : (∀ b j : Nat, (tag b ≠ 46 ∨ j ≠ 8) → (tag b ≠ 46 ∨ j ≠ 9) → (tag b ≠ 46 ∨ j ≠ 10) → (tag b ≠ 46 ∨ j ≠ 11) → (tag b ≠ 46 ∨ j ≠ 12) → (tag b ≠ 46 ∨ j ≠ 13) → (tag b ≠ 46 ∨ j ≠ 14) → (tag b ≠ 46 ∨ j ≠ 15) → fld F b j = fld Fo b j) ∧ (∀ b j : Nat, elm F b j = elm Fo b j) := by
    rw [hFo]
    exact ⟨by intros; rfl, by intros; rfl⟩
  have hstk : STK x3 x3 := STK.rf
  have hspt : SPT x3 x4 x3 x4 := SPT.rf
  refine lv_aload_n hx hb dX13_readWhole_0 rfl (lv_at hl 0 rfl) ?_
  refine lv_iload_n hx hb dX13_readWhole_1 rfl (lv_at hl 1 rfl) ?_
  refine lv_iload_n hx hb dX13_readWhole_2 rfl (lv_at hl 2 rfl) ?_
  refine t_cVi (n := 2) (C := RX13) (T := TX13) (N := 37) (As := [.int p1, .int p2]) (rest := []) X hT (km70_X13_bounded l G tag L F hT.2.2.2 p0 p1 p2 x0 x1 x2 x3 x4 x5 m0 g0 (by omega) (by omega) mx0 gx0 pf0 mx1 gx1 pf1 mx2 gx2 pf2 (by omega) pf3 (by omega) pf4 (by omega) pf5 hkf) m0 g0 rfl rfl qw_564 qw_565 qw_566 qw_5 qw_567 ⟨rfl, by decide +kernel, by decide +kernel, by decide +kernel⟩ ⟨Nat.le_of_ble_eq_true rfl, Nat.le_of_ble_eq_true rfl⟩ hl rfl rfl (Nat.le_of_ble_eq_true rfl) dX13_readWhole_3 ⟨Nat.le_of_ble_eq_true rfl, Nat.le_of_ble_eq_true rfl⟩ (fun z24997 F H locs hT hz24997 => ?_)
  obtain ⟨hz24997, yz24997, ⟨soz24997, spz24997, faz24997, qsoz24997, qspz24997, qfaz24997, rsoz24997, rspz24997, rfaz24997, stz24997, ptz24997, hkf⟩⟩ := hz24997
  have pf0 := (yz24997.1 _ 4 (Or.inr (by decide)) (Or.inr (by decide)) (Or.inr (by decide))).trans pf0
  have pf1 := (yz24997.1 _ 28 (Or.inr (by decide)) (Or.inr (by decide)) (Or.inr (by decide))).trans pf1
  have pf2 := (yz24997.1 _ 29 (Or.inr (by decide)) (Or.inr (by decide)) (Or.inr (by decide))).trans pf2
  have pf4 := (yz24997.1 _ 8 (Or.inr (by decide)) (Or.inr (by decide)) (Or.inr (by decide))).trans pf4
  have hfr : (∀ b j : Nat, (tag b ≠ 46 ∨ j ≠ 8) → (tag b ≠ 46 ∨ j ≠ 9) → (tag b ≠ 46 ∨ j ≠ 10) → (tag b ≠ 46 ∨ j ≠ 11) → (tag b ≠ 46 ∨ j ≠ 12) → (tag b ≠ 46 ∨ j ≠ 13) → (tag b ≠ 46 ∨ j ≠ 14) → (tag b ≠ 46 ∨ j ≠ 15) → fld F b j = fld Fo b j) ∧ (∀ b j : Nat, elm F b j = elm Fo b j) := ⟨fun b j n46_8 n46_9 n46_10 n46_11 n46_12 n46_13 n46_14 n46_15 => (yz24997.1 b j n46_9 n46_13 n46_14).trans (hfr.1 b j n46_8 n46_9 n46_10 n46_11 n46_12 n46_13 n46_14 n46_15), fun b j  => (yz24997.2 b j ).trans (hfr.2 b j )⟩
  have hstk := STK.tr hstk stz24997
  have hspt := SPT.tr hspt ptz24997
  refine lv_istore_n (lv' := [(3, .int z24997), (0, .ref p0), (1, .int p1), (2, .int p2)]) hx hb dX13_readWhole_6 rfl hl (by decide) rfl (fun ls hl => ?_)
  refine lv_aload_n hx hb dX13_readWhole_7 rfl (lv_at hl 1 rfl) ?_
  refine t_cVv (n := 0) (C := RX13) (T := TX13) (N := 37) (As := []) (rest := []) X hT (km14_X13_goesOn l G tag L F hT.2.2.2 p0 x0 x1 x2 soz24997 spz24997 faz24997 m0 g0 mx0 gx0 pf0 mx1 gx1 pf1 mx2 gx2 pf2 (by omega) qsoz24997 (by omega) qspz24997 (by omega) qfaz24997 hkf) m0 g0 rfl rfl qw_508 qw_509 qw_510 qw_5 qw_511 ⟨rfl, by decide +kernel, by decide +kernel, by decide +kernel⟩ ⟨Nat.le_of_ble_eq_true rfl, Nat.le_of_ble_eq_true rfl⟩ hl rfl rfl (Nat.le_of_ble_eq_true rfl) dX13_readWhole_8 ⟨Nat.le_of_ble_eq_true rfl, Nat.le_of_ble_eq_true rfl⟩ (fun F H locs hT hz24998 => ?_)
  obtain ⟨yz24998, ⟨soz24998, spz24998, faz24998, qsoz24998, qspz24998, qfaz24998, rsoz24998, rspz24998, rfaz24998, stz24998, ptz24998, hkf⟩⟩ := hz24998
  have pf0 := (yz24998.1 _ 4 (Or.inr (by decide)) (Or.inr (by decide)) (Or.inr (by decide)) (Or.inr (by decide)) (Or.inr (by decide)) (Or.inr (by decide))).trans pf0
  have pf1 := (yz24998.1 _ 28 (Or.inr (by decide)) (Or.inr (by decide)) (Or.inr (by decide)) (Or.inr (by decide)) (Or.inr (by decide)) (Or.inr (by decide))).trans pf1
  have pf2 := (yz24998.1 _ 29 (Or.inr (by decide)) (Or.inr (by decide)) (Or.inr (by decide)) (Or.inr (by decide)) (Or.inr (by decide)) (Or.inr (by decide))).trans pf2
  have qfaz24997 := (yz24998.1 _ 13 (Or.inr (by decide)) (Or.inr (by decide)) (Or.inr (by decide)) (Or.inr (by decide)) (Or.inr (by decide)) (Or.inr (by decide))).trans qfaz24997
  have hfr : (∀ b j : Nat, (tag b ≠ 46 ∨ j ≠ 8) → (tag b ≠ 46 ∨ j ≠ 9) → (tag b ≠ 46 ∨ j ≠ 10) → (tag b ≠ 46 ∨ j ≠ 11) → (tag b ≠ 46 ∨ j ≠ 12) → (tag b ≠ 46 ∨ j ≠ 13) → (tag b ≠ 46 ∨ j ≠ 14) → (tag b ≠ 46 ∨ j ≠ 15) → fld F b j = fld Fo b j) ∧ (∀ b j : Nat, elm F b j = elm Fo b j) := ⟨fun b j n46_8 n46_9 n46_10 n46_11 n46_12 n46_13 n46_14 n46_15 => (yz24998.1 b j n46_8 n46_9 n46_10 n46_11 n46_12 n46_15).trans (hfr.1 b j n46_8 n46_9 n46_10 n46_11 n46_12 n46_13 n46_14 n46_15), fun b j  => (yz24998.2 b j ).trans (hfr.2 b j )⟩
  have hstk := STK.tr hstk stz24998
  have hspt := SPT.tr hspt ptz24998
  refine lv_iload_n hx hb dX13_readWhole_11 rfl (lv_at hl 0 rfl) ?_
  exact t_iret hQ X hT (⟨(by omega), hfr, ⟨soz24998, spz24998, faz24998, qsoz24998, qspz24998, qfaz24998, (by omega), (by omega), (by omega), hstk, hspt, hkf⟩⟩) (Nat.le_of_ble_eq_true rfl) (Nat.le_of_ble_eq_true rfl) dX13_readWhole_12
set_option maxHeartbeats 4000000 in
set_option maxRecDepth 100000 in
theorem km72_X13_bounded (l : Launch) (G : KG) (tag : Nat → Nat) (L : List Nat) (Fo : Nat → va_E) (ho : okT G ttC tag L Fo) (p0 : Nat) (p1 : Int32) (p2 : Int32) (x0 : Nat) (x1 : Nat) (x2 : Nat) (x3 : Int32) (x4 : Int32) (x5 : Int32) (m0 : p0 ∈ L) (g0 : tag p0 = 46) (h1 : 0 ≤ p1.toInt ∧ p1.toInt ≤ 0) (h2 : 100 ≤ p2.toInt ∧ p2.toInt ≤ 100) (mx0 : x0 ∈ L) (gx0 : tag x0 = 44) (pf0 : fld Fo p0 4 = .ref x0) (mx1 : x1 ∈ L) (gx1 : tag x1 = 35) (pf1 : fld Fo x0 28 = .ref x1) (mx2 : x2 ∈ L) (gx2 : tag x2 = 36) (pf2 : fld Fo x0 29 = .ref x2) (hx3 : 0 ≤ x3.toInt ∧ x3.toInt ≤ 5) (pf3 : fld Fo p0 9 = .int x3) (hx4 : 0 ≤ x4.toInt ∧ x4.toInt ≤ 1000) (pf4 : fld Fo p0 8 = .int x4) (hx5 : 0 ≤ x5.toInt ∧ x5.toInt ≤ 7) (pf5 : fld Fo p0 13 = .int x5) (hkf : KF x3 x5) : TMi l yX13_bounded cX13_bounded 3 (some .int) { frames := 1, cells := 0, slots := 0, locals := 22 } G ttC tag L Fo [.ref p0, .int p1, .int p2] (fun r F1 => (0 ≤ r.toInt ∧ r.toInt ≤ 100) ∧ ((∀ b j : Nat, (tag b ≠ 46 ∨ j ≠ 9) → (tag b ≠ 46 ∨ j ≠ 13) → (tag b ≠ 46 ∨ j ≠ 14) → fld F1 b j = fld Fo b j) ∧ (∀ b j : Nat, elm F1 b j = elm Fo b j)) ∧ (∃ so sp fa : Int32, fld F1 p0 9 = .int so ∧ fld F1 p0 8 = .int sp ∧ fld F1 p0 13 = .int fa ∧ (0 ≤ so.toInt ∧ so.toInt ≤ 5) ∧ (0 ≤ sp.toInt ∧ sp.toInt ≤ 1000) ∧ (0 ≤ fa.toInt ∧ fa.toInt ≤ 7) ∧ STK x3 so ∧ SPT x3 x4 so sp ∧ KF so fa)) := by
  refine t_bodyi (y := yX13_bounded) (cd := cX13_bounded) (mL := 3) (rt := (some .int)) (rm := { frames := 1, cells := 0, slots := 0, locals := 22 }) (av := [.ref p0, .int p1, .int p2]) (by decide) (Nat.le_of_ble_eq_true rfl) ho ?_
  intro p e s m args below meth c ls A Q hQ X hT hl
  have hx := X.1.1
  have hb := X.1.2.1
  have hl : lv_has ls 3 [(0, .ref p0), (1, .int p1), (2, .int p2)] := hl
  obtain ⟨F, hFo⟩ : ∃ F : Nat → va_E, F = Fo := ⟨_, rfl⟩
  rw [← hFo] at hT pf0 pf1 pf2 pf3 pf4 pf5
  have hfr : (∀ b j : Nat, (tag b ≠ 46 ∨ j ≠ 9) → (tag b ≠ 46 ∨ j ≠ 13) → (tag b ≠ 46 ∨ j ≠ 14) → fld F b j = fld Fo b j) ∧ (∀ b j : Nat, elm F b j = elm Fo b j) := by
    rw [hFo]
    exact ⟨by intros; rfl, by intros; rfl⟩
  have hstk : STK x3 x3 := STK.rf
  have hspt : SPT x3 x4 x3 x4 := SPT.rf
  refine lv_aload_n hx hb dX13_bounded_0 rfl (lv_at hl 0 rfl) ?_
  refine t_get (C := RX13) (T := TX13) (N := 37) X hT m0 g0 rfl rfl 9 (by decide) qw_478 inlX13 rfl dX13_bounded_1 (fun v25287 hv25287 ov25287 => ?_)
  obtain rfl : v25287 = .int x3 := hv25287.symm.trans pf3
  refine lv_iconst (v := 3) hx hb dX13_bounded_4 (by decide) ?_
  refine lv_icmp_eq (tgt := 16) hx hb dX13_bounded_5 (by decide) (fun c25288 => ?_) (fun c25288 => ?_)
  · have w25289 := cv_eq (rfl : x3.toInt = x3.toInt) (by decide : (3 : Int32).toInt = 3) c25288
    refine lv_aload_n hx hb dX13_bounded_16 rfl (lv_at hl 0 rfl) ?_
    refine t_get (C := RX13) (T := TX13) (N := 37) X hT m0 g0 rfl rfl 12 (by decide) qw_516 inlX13 rfl dX13_bounded_17 (fun v25290 hv25290 ov25290 => ?_)
    obtain ⟨z25291, rfl, rz25291⟩ := okV_i ov25290
    refine lv_iload_n hx hb dX13_bounded_20 rfl (lv_at hl 1 rfl) ?_
    refine lv_iload_n hx hb dX13_bounded_21 rfl (lv_at hl 2 rfl) ?_
    refine t_cSi (n := 3) (As := [.int z25291, .int p1, .int p2]) (rest := []) X hT (km19_X13_within l G tag L F hT.2.2.2 z25291 p1 p2 ) qw_568 qw_569 qw_5 qw_570 ⟨by decide +kernel, by decide +kernel, by decide +kernel⟩ ⟨Nat.le_of_ble_eq_true rfl, Nat.le_of_ble_eq_true rfl⟩ hl rfl rfl (Nat.le_of_ble_eq_true rfl) dX13_bounded_22 ⟨Nat.le_of_ble_eq_true rfl, Nat.le_of_ble_eq_true rfl⟩ (fun z25292 F9 H locs hT hz25292 => ?_)
    obtain ⟨fz25292, hz25292, xz25292_0⟩ := hz25292
    rw [fz25292] at hT
    refine lv_if_ne (tgt := 33) hx hb dX13_bounded_25 (by decide) (fun c25293 => ?_) (fun c25293 => ?_)
    · have w25294 := cv_ne (rfl : z25292.toInt = z25292.toInt) (by decide : (0 : Int32).toInt = 0) c25293
      have w25295 := xz25292_0 (by omega)
      refine lv_aload_n hx hb dX13_bounded_33 rfl (lv_at hl 0 rfl) ?_
      refine t_get (C := RX13) (T := TX13) (N := 37) X hT m0 g0 rfl rfl 9 (by decide) qw_478 inlX13 rfl dX13_bounded_34 (fun v25296 hv25296 ov25296 => ?_)
      obtain rfl : v25296 = .int x3 := hv25296.symm.trans pf3
      refine lv_iconst (v := 5) hx hb dX13_bounded_37 (by decide) ?_
      refine lv_icmp_ne (tgt := 45) hx hb dX13_bounded_38 (by decide) (fun c25297 => ?_) (fun c25297 => ?_)
      · have w25298 := cv_ne (rfl : x3.toInt = x3.toInt) (by decide : (5 : Int32).toInt = 5) c25297
        refine lv_aload_n hx hb dX13_bounded_45 rfl (lv_at hl 0 rfl) ?_
        refine t_get (C := RX13) (T := TX13) (N := 37) X hT m0 g0 rfl rfl 12 (by decide) qw_516 inlX13 rfl dX13_bounded_46 (fun v25299 hv25299 ov25299 => ?_)
        obtain rfl : v25299 = .int z25291 := hv25299.symm.trans hv25290
        exact t_iret hQ X hT (⟨(by omega), hfr, ⟨x3, x4, x5, pf3, pf4, pf5, (by omega), (by omega), (by omega), hstk, hspt, hkf⟩⟩) (Nat.le_of_ble_eq_true rfl) (Nat.le_of_ble_eq_true rfl) dX13_bounded_49
      · have w25300 := cv_eq (rfl : x3.toInt = x3.toInt) (by decide : (5 : Int32).toInt = 5) c25297
        exfalso
        omega
    · have w25301 := cv_eq (rfl : z25292.toInt = z25292.toInt) (by decide : (0 : Int32).toInt = 0) c25293
      refine lv_aload_n hx hb dX13_bounded_28 rfl (lv_at hl 0 rfl) ?_
      refine lv_iconst (v := 4) hx hb dX13_bounded_29 (by decide) ?_
      refine t_cVv (n := 1) (C := RX13) (T := TX13) (N := 37) (As := [.int 4]) (rest := []) X hT (km10_X13_flaw l G tag L F hT.2.2.2 p0 4 x0 x1 x2 x3 x4 x5 m0 g0 (by decide) mx0 gx0 pf0 mx1 gx1 pf1 mx2 gx2 pf2 (by omega) pf3 (by omega) pf4 (by omega) pf5 hkf) m0 g0 rfl rfl qw_548 qw_549 qw_550 qw_5 qw_551 ⟨rfl, by decide +kernel, by decide +kernel, by decide +kernel⟩ ⟨Nat.le_of_ble_eq_true rfl, Nat.le_of_ble_eq_true rfl⟩ hl rfl rfl (Nat.le_of_ble_eq_true rfl) dX13_bounded_30 ⟨Nat.le_of_ble_eq_true rfl, Nat.le_of_ble_eq_true rfl⟩ (fun F H locs hT hz25302 => ?_)
      obtain ⟨yz25302, ⟨soz25302, spz25302, faz25302, qsoz25302, qspz25302, qfaz25302, rsoz25302, rspz25302, rfaz25302, stz25302, ptz25302, hkf, pxz25302_0⟩⟩ := hz25302
      have pf0 := (yz25302.1 _ 4 (Or.inr (by decide)) (Or.inr (by decide)) (Or.inr (by decide))).trans pf0
      have pf1 := (yz25302.1 _ 28 (Or.inr (by decide)) (Or.inr (by decide)) (Or.inr (by decide))).trans pf1
      have pf2 := (yz25302.1 _ 29 (Or.inr (by decide)) (Or.inr (by decide)) (Or.inr (by decide))).trans pf2
      have pf4 := (yz25302.1 _ 8 (Or.inr (by decide)) (Or.inr (by decide)) (Or.inr (by decide))).trans pf4
      have hv25290 := (yz25302.1 _ 12 (Or.inr (by decide)) (Or.inr (by decide)) (Or.inr (by decide))).trans hv25290
      have hfr : (∀ b j : Nat, (tag b ≠ 46 ∨ j ≠ 9) → (tag b ≠ 46 ∨ j ≠ 13) → (tag b ≠ 46 ∨ j ≠ 14) → fld F b j = fld Fo b j) ∧ (∀ b j : Nat, elm F b j = elm Fo b j) := ⟨fun b j n46_9 n46_13 n46_14 => (yz25302.1 b j n46_9 n46_13 n46_14).trans (hfr.1 b j n46_9 n46_13 n46_14), fun b j  => (yz25302.2 b j ).trans (hfr.2 b j )⟩
      have hstk := STK.tr hstk stz25302
      have hspt := SPT.tr hspt ptz25302
      refine lv_aload_n hx hb dX13_bounded_33 rfl (lv_at hl 0 rfl) ?_
      refine t_get (C := RX13) (T := TX13) (N := 37) X hT m0 g0 rfl rfl 9 (by decide) qw_478 inlX13 rfl dX13_bounded_34 (fun v25303 hv25303 ov25303 => ?_)
      obtain rfl : v25303 = .int soz25302 := hv25303.symm.trans qsoz25302
      refine lv_iconst (v := 5) hx hb dX13_bounded_37 (by decide) ?_
      refine lv_icmp_ne (tgt := 45) hx hb dX13_bounded_38 (by decide) (fun c25304 => ?_) (fun c25304 => ?_)
      · have w25305 := cv_ne (rfl : soz25302.toInt = soz25302.toInt) (by decide : (5 : Int32).toInt = 5) c25304
        exfalso
        omega
      · have w25306 := cv_eq (rfl : soz25302.toInt = soz25302.toInt) (by decide : (5 : Int32).toInt = 5) c25304
        refine lv_iload_n hx hb dX13_bounded_41 rfl (lv_at hl 1 rfl) ?_
        refine lv_goto (tgt := 49) hx hb dX13_bounded_42 (by decide) ?_
        exact t_iret hQ X hT (⟨(by omega), hfr, ⟨soz25302, spz25302, faz25302, qsoz25302, qspz25302, qfaz25302, (by omega), (by omega), (by omega), hstk, hspt, hkf⟩⟩) (Nat.le_of_ble_eq_true rfl) (Nat.le_of_ble_eq_true rfl) dX13_bounded_49
  · have w25307 := cv_ne (rfl : x3.toInt = x3.toInt) (by decide : (3 : Int32).toInt = 3) c25288
    refine lv_aload_n hx hb dX13_bounded_8 rfl (lv_at hl 0 rfl) ?_
    refine lv_iconst (v := 1) hx hb dX13_bounded_9 (by decide) ?_
    refine t_cVv (n := 1) (C := RX13) (T := TX13) (N := 37) (As := [.int 1]) (rest := []) X hT (km10_X13_flaw l G tag L F hT.2.2.2 p0 1 x0 x1 x2 x3 x4 x5 m0 g0 (by decide) mx0 gx0 pf0 mx1 gx1 pf1 mx2 gx2 pf2 (by omega) pf3 (by omega) pf4 (by omega) pf5 hkf) m0 g0 rfl rfl qw_548 qw_549 qw_550 qw_5 qw_551 ⟨rfl, by decide +kernel, by decide +kernel, by decide +kernel⟩ ⟨Nat.le_of_ble_eq_true rfl, Nat.le_of_ble_eq_true rfl⟩ hl rfl rfl (Nat.le_of_ble_eq_true rfl) dX13_bounded_10 ⟨Nat.le_of_ble_eq_true rfl, Nat.le_of_ble_eq_true rfl⟩ (fun F H locs hT hz25308 => ?_)
    obtain ⟨yz25308, ⟨soz25308, spz25308, faz25308, qsoz25308, qspz25308, qfaz25308, rsoz25308, rspz25308, rfaz25308, stz25308, ptz25308, hkf, pxz25308_0⟩⟩ := hz25308
    have pf0 := (yz25308.1 _ 4 (Or.inr (by decide)) (Or.inr (by decide)) (Or.inr (by decide))).trans pf0
    have pf1 := (yz25308.1 _ 28 (Or.inr (by decide)) (Or.inr (by decide)) (Or.inr (by decide))).trans pf1
    have pf2 := (yz25308.1 _ 29 (Or.inr (by decide)) (Or.inr (by decide)) (Or.inr (by decide))).trans pf2
    have pf4 := (yz25308.1 _ 8 (Or.inr (by decide)) (Or.inr (by decide)) (Or.inr (by decide))).trans pf4
    have hfr : (∀ b j : Nat, (tag b ≠ 46 ∨ j ≠ 9) → (tag b ≠ 46 ∨ j ≠ 13) → (tag b ≠ 46 ∨ j ≠ 14) → fld F b j = fld Fo b j) ∧ (∀ b j : Nat, elm F b j = elm Fo b j) := ⟨fun b j n46_9 n46_13 n46_14 => (yz25308.1 b j n46_9 n46_13 n46_14).trans (hfr.1 b j n46_9 n46_13 n46_14), fun b j  => (yz25308.2 b j ).trans (hfr.2 b j )⟩
    have hstk := STK.tr hstk stz25308
    have hspt := SPT.tr hspt ptz25308
    refine lv_goto (tgt := 33) hx hb dX13_bounded_13 (by decide) ?_
    refine lv_aload_n hx hb dX13_bounded_33 rfl (lv_at hl 0 rfl) ?_
    refine t_get (C := RX13) (T := TX13) (N := 37) X hT m0 g0 rfl rfl 9 (by decide) qw_478 inlX13 rfl dX13_bounded_34 (fun v25309 hv25309 ov25309 => ?_)
    obtain rfl : v25309 = .int soz25308 := hv25309.symm.trans qsoz25308
    refine lv_iconst (v := 5) hx hb dX13_bounded_37 (by decide) ?_
    refine lv_icmp_ne (tgt := 45) hx hb dX13_bounded_38 (by decide) (fun c25310 => ?_) (fun c25310 => ?_)
    · have w25311 := cv_ne (rfl : soz25308.toInt = soz25308.toInt) (by decide : (5 : Int32).toInt = 5) c25310
      exfalso
      omega
    · have w25312 := cv_eq (rfl : soz25308.toInt = soz25308.toInt) (by decide : (5 : Int32).toInt = 5) c25310
      refine lv_iload_n hx hb dX13_bounded_41 rfl (lv_at hl 1 rfl) ?_
      refine lv_goto (tgt := 49) hx hb dX13_bounded_42 (by decide) ?_
      exact t_iret hQ X hT (⟨(by omega), hfr, ⟨soz25308, spz25308, faz25308, qsoz25308, qspz25308, qfaz25308, (by omega), (by omega), (by omega), hstk, hspt, hkf⟩⟩) (Nat.le_of_ble_eq_true rfl) (Nat.le_of_ble_eq_true rfl) dX13_bounded_49
