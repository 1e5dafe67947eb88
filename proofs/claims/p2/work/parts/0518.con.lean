set_option maxHeartbeats 4000000 in
set_option maxRecDepth 100000 in
theorem kt127_X3_checkLine (l : Launch) (G : KG) (tag : Nat → Nat) (L : List Nat) (Fo : Nat → va_E) (ho : okT G ttC tag L Fo) (p0 : Nat) (p1 : Int32) (x0 : Nat) (x1 : Nat) (x2 : Nat) (x3 : Nat) (x4 : Nat) (x5 : Nat) (m0 : p0 ∈ L) (g0 : tag p0 = 25) (mx0 : x0 ∈ L) (gx0 : tag x0 = 24) (pf0 : fld Fo p0 0 = .ref x0) (mx1 : x1 ∈ L) (gx1 : tag x1 = 18) (pf1 : fld Fo p0 1 = .ref x1) (mx2 : x2 ∈ L) (gx2 : tag x2 = 19) (pf2 : fld Fo p0 2 = .ref x2) (mx3 : x3 ∈ L) (gx3 : tag x3 = 1) (pf3 : fld Fo x0 0 = .ref x3) (mx4 : x4 ∈ L) (gx4 : tag x4 = 14) (pf4 : fld Fo p0 10 = .ref x4) (mx5 : x5 ∈ L) (gx5 : tag x5 = 15) (pf5 : fld Fo p0 11 = .ref x5) : TMv l yX3_checkLine cX3_checkLine 2 { frames := 1, cells := 0, slots := 0, locals := 22 } G ttC tag L Fo [.ref p0, .int p1] (fun F1 => ((∀ b j : Nat, (tag b ≠ 25 ∨ j ≠ 3) → (tag b ≠ 25 ∨ j ≠ 4) → fld F1 b j = fld Fo b j) ∧ EF tag F1 Fo)) := by
  refine t_bodyv (y := yX3_checkLine) (cd := cX3_checkLine) (mL := 2) (rm := { frames := 1, cells := 0, slots := 0, locals := 22 }) (av := [.ref p0, .int p1]) (by decide) (Nat.le_of_ble_eq_true rfl) ho ?_
  intro p e s m args below meth c ls A Q hQ X hT hl
  have hx := X.1.1
  have hb := X.1.2.1
  have hl : lv_has ls 2 [(0, .ref p0), (1, .int p1)] := hl
  have rp1 := rg_all p1
  obtain ⟨F, hFo⟩ : ∃ F : Nat → va_E, F = Fo := ⟨_, rfl⟩
  rw [← hFo] at hT pf0 pf1 pf2 pf3 pf4 pf5
  have hfr : (∀ b j : Nat, (tag b ≠ 25 ∨ j ≠ 3) → (tag b ≠ 25 ∨ j ≠ 4) → fld F b j = fld Fo b j) ∧ EF tag F Fo := by
    rw [hFo]
    exact ⟨by intros; rfl, fun _ _ _ => rfl⟩
  refine lv_aload_n hx hb dX3_checkLine_0 rfl (lv_at hl 0 rfl) ?_
  refine lv_iload_n hx hb dX3_checkLine_1 rfl (lv_at hl 1 rfl) ?_
  refine t_cVi (n := 1) (C := RX3) (T := TX3) (N := 13) (As := [.int p1]) (rest := []) X hT (kt109_X3_isLineAgain l G tag L F hT.2.2.2 p0 p1 m0 g0) m0 g0 rfl rfl qw_295 qw_296 qw_297 qw_28 qw_298 ⟨rfl, by decide +kernel, by decide +kernel, by decide +kernel⟩ ⟨Nat.le_of_ble_eq_true rfl, Nat.le_of_ble_eq_true rfl⟩ hl rfl rfl (Nat.le_of_ble_eq_true rfl) dX3_checkLine_2 ⟨Nat.le_of_ble_eq_true rfl, Nat.le_of_ble_eq_true rfl⟩ (fun z47681 F9 H locs hT hz47681 => ?_)
  obtain ⟨fz47681, hz47681⟩ := hz47681
  rw [fz47681] at hT
  refine lv_if_eq (tgt := 23) hx hb dX3_checkLine_5 (by decide) (fun c47682 => ?_) (fun c47682 => ?_)
  · have w47683 := cv_eq (rfl : z47681.toInt = z47681.toInt) (by decide : (0 : Int32).toInt = 0) c47682
    refine lv_aload_n hx hb dX3_checkLine_23 rfl (lv_at hl 0 rfl) ?_
    refine lv_iload_n hx hb dX3_checkLine_24 rfl (lv_at hl 1 rfl) ?_
    refine t_cVi (n := 1) (C := RX3) (T := TX3) (N := 13) (As := [.int p1]) (rest := []) X hT (kt126_X3_isLineTooMany l G tag L F hT.2.2.2 p0 p1 x0 x1 x2 x3 x4 x5 m0 g0 mx0 gx0 pf0 mx1 gx1 pf1 mx2 gx2 pf2 mx3 gx3 pf3 mx4 gx4 pf4 mx5 gx5 pf5) m0 g0 rfl rfl qw_299 qw_300 qw_301 qw_28 qw_302 ⟨rfl, by decide +kernel, by decide +kernel, by decide +kernel⟩ ⟨Nat.le_of_ble_eq_true rfl, Nat.le_of_ble_eq_true rfl⟩ hl rfl rfl (Nat.le_of_ble_eq_true rfl) dX3_checkLine_25 ⟨Nat.le_of_ble_eq_true rfl, Nat.le_of_ble_eq_true rfl⟩ (fun z47684 F9 H locs hT hz47684 => ?_)
    obtain ⟨fz47684, hz47684⟩ := hz47684
    rw [fz47684] at hT
    refine lv_if_eq (tgt := 46) hx hb dX3_checkLine_28 (by decide) (fun c47685 => ?_) (fun c47685 => ?_)
    · have w47686 := cv_eq (rfl : z47684.toInt = z47684.toInt) (by decide : (0 : Int32).toInt = 0) c47685
      refine lv_iload_n hx hb dX3_checkLine_46 rfl (lv_at hl 1 rfl) ?_
      refine lv_if_eq (tgt := 57) hx hb dX3_checkLine_47 (by decide) (fun c47687 => ?_) (fun c47687 => ?_)
      · have w47688 := cv_eq (rfl : p1.toInt = p1.toInt) (by decide : (0 : Int32).toInt = 0) c47687
        refine lv_iload_n hx hb dX3_checkLine_57 rfl (lv_at hl 1 rfl) ?_
        refine lv_iconst (v := 2) hx hb dX3_checkLine_58 (by decide) ?_
        refine lv_icmp_ne (tgt := 85) hx hb dX3_checkLine_59 (by decide) (fun c47689 => ?_) (fun c47689 => ?_)
        · have w47690 := cv_ne (rfl : p1.toInt = p1.toInt) (by decide : (2 : Int32).toInt = 2) c47689
          exact t_vret hQ X hT hfr (Nat.le_of_ble_eq_true rfl) (Nat.le_of_ble_eq_true rfl) dX3_checkLine_85
        · have w47691 := cv_eq (rfl : p1.toInt = p1.toInt) (by decide : (2 : Int32).toInt = 2) c47689
          exfalso
          omega
      · have w47692 := cv_ne (rfl : p1.toInt = p1.toInt) (by decide : (0 : Int32).toInt = 0) c47687
        refine lv_aload_n hx hb dX3_checkLine_50 rfl (lv_at hl 0 rfl) ?_
        refine t_get (C := RX3) (T := TX3) (N := 13) X hT m0 g0 rfl rfl 5 (by decide) qw_165 inlX3 rfl dX3_checkLine_51 (fun v47693 hv47693 ov47693 => ?_)
        obtain ⟨z47694, rfl, rz47694⟩ := okV_i ov47693
        refine lv_if_eq (tgt := 72) hx hb dX3_checkLine_54 (by decide) (fun c47695 => ?_) (fun c47695 => ?_)
        · have w47696 := cv_eq (rfl : z47694.toInt = z47694.toInt) (by decide : (0 : Int32).toInt = 0) c47695
          refine lv_aload_n hx hb dX3_checkLine_72 rfl (lv_at hl 0 rfl) ?_
          refine lv_bipush (v := 6) hx hb dX3_checkLine_73 (by decide) ?_
          refine lv_aload_n hx hb dX3_checkLine_75 rfl (lv_at hl 0 rfl) ?_
          refine t_get (C := RX3) (T := TX3) (N := 13) X hT m0 g0 rfl rfl 0 (by decide) qw_73 inlX3 rfl dX3_checkLine_76 (fun v47697 hv47697 ov47697 => ?_)
          obtain rfl : v47697 = .ref x0 := hv47697.symm.trans pf0
          refine t_get (C := RX8) (T := TX8) (N := 8) X hT mx0 gx0 rfl rfl 4 (by decide) qw_227 inlX8 rfl dX3_checkLine_79 (fun v47698 hv47698 ov47698 => ?_)
          obtain ⟨z47699, rfl, rz47699⟩ := okV_i ov47698
          refine t_cVv (n := 2) (C := RX3) (T := TX3) (N := 13) (As := [.int 6, .int z47699]) (rest := []) X hT (kt111_X3_fail l G tag L F hT.2.2.2 p0 6 z47699 m0 g0 (by decide)) m0 g0 rfl rfl qw_287 qw_288 qw_289 qw_28 qw_290 ⟨rfl, by decide +kernel, by decide +kernel, by decide +kernel⟩ ⟨Nat.le_of_ble_eq_true rfl, Nat.le_of_ble_eq_true rfl⟩ hl rfl rfl (Nat.le_of_ble_eq_true rfl) dX3_checkLine_82 ⟨Nat.le_of_ble_eq_true rfl, Nat.le_of_ble_eq_true rfl⟩ (fun F H locs hT hz47700 => ?_)
          obtain ⟨yz47700, xz47700_0⟩ := hz47700
          have pf0 := (yz47700.1 _ 0 (Or.inr (by decide)) (Or.inr (by decide))).trans pf0
          have pf1 := (yz47700.1 _ 1 (Or.inr (by decide)) (Or.inr (by decide))).trans pf1
          have pf2 := (yz47700.1 _ 2 (Or.inr (by decide)) (Or.inr (by decide))).trans pf2
          have pf3 := (yz47700.1 _ 0 (Or.inr (by decide)) (Or.inr (by decide))).trans pf3
          have pf4 := (yz47700.1 _ 10 (Or.inr (by decide)) (Or.inr (by decide))).trans pf4
          have pf5 := (yz47700.1 _ 11 (Or.inr (by decide)) (Or.inr (by decide))).trans pf5
          have hv47693 := (yz47700.1 _ 5 (Or.inr (by decide)) (Or.inr (by decide))).trans hv47693
          have hv47698 := (yz47700.1 _ 4 (Or.inr (by decide)) (Or.inl (by rw [gx0]; decide))).trans hv47698
          have hfr : (∀ b j : Nat, (tag b ≠ 25 ∨ j ≠ 3) → (tag b ≠ 25 ∨ j ≠ 4) → fld F b j = fld Fo b j) ∧ EF tag F Fo := ⟨fun b j n25_3 n25_4 => (yz47700.1 b j n25_3 n25_4).trans (hfr.1 b j n25_3 n25_4), fun b j hb => (yz47700.2 b j hb).trans (hfr.2 b j hb)⟩
          obtain ⟨z47701, qz47701, rz47701⟩ := xz47700_0
          exact t_vret hQ X hT hfr (Nat.le_of_ble_eq_true rfl) (Nat.le_of_ble_eq_true rfl) dX3_checkLine_85
        · have w47702 := cv_ne (rfl : z47694.toInt = z47694.toInt) (by decide : (0 : Int32).toInt = 0) c47695
          refine lv_iload_n hx hb dX3_checkLine_57 rfl (lv_at hl 1 rfl) ?_
          refine lv_iconst (v := 2) hx hb dX3_checkLine_58 (by decide) ?_
          refine lv_icmp_ne (tgt := 85) hx hb dX3_checkLine_59 (by decide) (fun c47703 => ?_) (fun c47703 => ?_)
          · have w47704 := cv_ne (rfl : p1.toInt = p1.toInt) (by decide : (2 : Int32).toInt = 2) c47703
            exact t_vret hQ X hT hfr (Nat.le_of_ble_eq_true rfl) (Nat.le_of_ble_eq_true rfl) dX3_checkLine_85
          · have w47705 := cv_eq (rfl : p1.toInt = p1.toInt) (by decide : (2 : Int32).toInt = 2) c47703
            refine lv_aload_n hx hb dX3_checkLine_62 rfl (lv_at hl 0 rfl) ?_
            refine t_get (C := RX3) (T := TX3) (N := 13) X hT m0 g0 rfl rfl 1 (by decide) qw_161 inlX3 rfl dX3_checkLine_63 (fun v47706 hv47706 ov47706 => ?_)
            obtain rfl : v47706 = .ref x1 := hv47706.symm.trans pf1
            refine t_get (C := RX1) (T := TX1) (N := 20) X hT mx1 gx1 rfl rfl 10 (by decide) qw_172 inlX1 rfl dX3_checkLine_66 (fun v47707 hv47707 ov47707 => ?_)
            obtain ⟨z47708, rfl, rz47708⟩ := okV_i ov47707
            refine lv_if_le (tgt := 85) hx hb dX3_checkLine_69 (by decide) (fun c47709 => ?_) (fun c47709 => ?_)
            · have w47710 := cv_le (rfl : z47708.toInt = z47708.toInt) (by decide : (0 : Int32).toInt = 0) c47709
              exact t_vret hQ X hT hfr (Nat.le_of_ble_eq_true rfl) (Nat.le_of_ble_eq_true rfl) dX3_checkLine_85
            · have w47711 := cv_nle (rfl : z47708.toInt = z47708.toInt) (by decide : (0 : Int32).toInt = 0) c47709
              refine lv_aload_n hx hb dX3_checkLine_72 rfl (lv_at hl 0 rfl) ?_
              refine lv_bipush (v := 6) hx hb dX3_checkLine_73 (by decide) ?_
              refine lv_aload_n hx hb dX3_checkLine_75 rfl (lv_at hl 0 rfl) ?_
              refine t_get (C := RX3) (T := TX3) (N := 13) X hT m0 g0 rfl rfl 0 (by decide) qw_73 inlX3 rfl dX3_checkLine_76 (fun v47712 hv47712 ov47712 => ?_)
              obtain rfl : v47712 = .ref x0 := hv47712.symm.trans pf0
              refine t_get (C := RX8) (T := TX8) (N := 8) X hT mx0 gx0 rfl rfl 4 (by decide) qw_227 inlX8 rfl dX3_checkLine_79 (fun v47713 hv47713 ov47713 => ?_)
              obtain ⟨z47714, rfl, rz47714⟩ := okV_i ov47713
              refine t_cVv (n := 2) (C := RX3) (T := TX3) (N := 13) (As := [.int 6, .int z47714]) (rest := []) X hT (kt111_X3_fail l G tag L F hT.2.2.2 p0 6 z47714 m0 g0 (by decide)) m0 g0 rfl rfl qw_287 qw_288 qw_289 qw_28 qw_290 ⟨rfl, by decide +kernel, by decide +kernel, by decide +kernel⟩ ⟨Nat.le_of_ble_eq_true rfl, Nat.le_of_ble_eq_true rfl⟩ hl rfl rfl (Nat.le_of_ble_eq_true rfl) dX3_checkLine_82 ⟨Nat.le_of_ble_eq_true rfl, Nat.le_of_ble_eq_true rfl⟩ (fun F H locs hT hz47715 => ?_)
              obtain ⟨yz47715, xz47715_0⟩ := hz47715
              have pf0 := (yz47715.1 _ 0 (Or.inr (by decide)) (Or.inr (by decide))).trans pf0
              have pf1 := (yz47715.1 _ 1 (Or.inr (by decide)) (Or.inr (by decide))).trans pf1
              have pf2 := (yz47715.1 _ 2 (Or.inr (by decide)) (Or.inr (by decide))).trans pf2
              have pf3 := (yz47715.1 _ 0 (Or.inr (by decide)) (Or.inr (by decide))).trans pf3
              have pf4 := (yz47715.1 _ 10 (Or.inr (by decide)) (Or.inr (by decide))).trans pf4
              have pf5 := (yz47715.1 _ 11 (Or.inr (by decide)) (Or.inr (by decide))).trans pf5
              have hv47693 := (yz47715.1 _ 5 (Or.inr (by decide)) (Or.inr (by decide))).trans hv47693
              have hv47707 := (yz47715.1 _ 10 (Or.inr (by decide)) (Or.inr (by decide))).trans hv47707
              have hv47713 := (yz47715.1 _ 4 (Or.inr (by decide)) (Or.inl (by rw [gx0]; decide))).trans hv47713
              have hfr : (∀ b j : Nat, (tag b ≠ 25 ∨ j ≠ 3) → (tag b ≠ 25 ∨ j ≠ 4) → fld F b j = fld Fo b j) ∧ EF tag F Fo := ⟨fun b j n25_3 n25_4 => (yz47715.1 b j n25_3 n25_4).trans (hfr.1 b j n25_3 n25_4), fun b j hb => (yz47715.2 b j hb).trans (hfr.2 b j hb)⟩
              obtain ⟨z47716, qz47716, rz47716⟩ := xz47715_0
              exact t_vret hQ X hT hfr (Nat.le_of_ble_eq_true rfl) (Nat.le_of_ble_eq_true rfl) dX3_checkLine_85
    · have w47717 := cv_ne (rfl : z47684.toInt = z47684.toInt) (by decide : (0 : Int32).toInt = 0) c47685
      refine lv_aload_n hx hb dX3_checkLine_31 rfl (lv_at hl 0 rfl) ?_
      refine lv_iconst (v := 5) hx hb dX3_checkLine_32 (by decide) ?_
      refine lv_aload_n hx hb dX3_checkLine_33 rfl (lv_at hl 0 rfl) ?_
      refine t_get (C := RX3) (T := TX3) (N := 13) X hT m0 g0 rfl rfl 0 (by decide) qw_73 inlX3 rfl dX3_checkLine_34 (fun v47718 hv47718 ov47718 => ?_)
      obtain rfl : v47718 = .ref x0 := hv47718.symm.trans pf0
      refine t_get (C := RX8) (T := TX8) (N := 8) X hT mx0 gx0 rfl rfl 4 (by decide) qw_227 inlX8 rfl dX3_checkLine_37 (fun v47719 hv47719 ov47719 => ?_)
      obtain ⟨z47720, rfl, rz47720⟩ := okV_i ov47719
      refine t_cVv (n := 2) (C := RX3) (T := TX3) (N := 13) (As := [.int 5, .int z47720]) (rest := []) X hT (kt111_X3_fail l G tag L F hT.2.2.2 p0 5 z47720 m0 g0 (by decide)) m0 g0 rfl rfl qw_287 qw_288 qw_289 qw_28 qw_290 ⟨rfl, by decide +kernel, by decide +kernel, by decide +kernel⟩ ⟨Nat.le_of_ble_eq_true rfl, Nat.le_of_ble_eq_true rfl⟩ hl rfl rfl (Nat.le_of_ble_eq_true rfl) dX3_checkLine_40 ⟨Nat.le_of_ble_eq_true rfl, Nat.le_of_ble_eq_true rfl⟩ (fun F H locs hT hz47721 => ?_)
      obtain ⟨yz47721, xz47721_0⟩ := hz47721
      have pf0 := (yz47721.1 _ 0 (Or.inr (by decide)) (Or.inr (by decide))).trans pf0
      have pf1 := (yz47721.1 _ 1 (Or.inr (by decide)) (Or.inr (by decide))).trans pf1
      have pf2 := (yz47721.1 _ 2 (Or.inr (by decide)) (Or.inr (by decide))).trans pf2
      have pf3 := (yz47721.1 _ 0 (Or.inr (by decide)) (Or.inr (by decide))).trans pf3
      have pf4 := (yz47721.1 _ 10 (Or.inr (by decide)) (Or.inr (by decide))).trans pf4
      have pf5 := (yz47721.1 _ 11 (Or.inr (by decide)) (Or.inr (by decide))).trans pf5
      have hv47719 := (yz47721.1 _ 4 (Or.inr (by decide)) (Or.inl (by rw [gx0]; decide))).trans hv47719
      have hfr : (∀ b j : Nat, (tag b ≠ 25 ∨ j ≠ 3) → (tag b ≠ 25 ∨ j ≠ 4) → fld F b j = fld Fo b j) ∧ EF tag F Fo := ⟨fun b j n25_3 n25_4 => (yz47721.1 b j n25_3 n25_4).trans (hfr.1 b j n25_3 n25_4), fun b j hb => (yz47721.2 b j hb).trans (hfr.2 b j hb)⟩
      obtain ⟨z47722, qz47722, rz47722⟩ := xz47721_0
      refine lv_goto (tgt := 85) hx hb dX3_checkLine_43 (by decide) ?_
      exact t_vret hQ X hT hfr (Nat.le_of_ble_eq_true rfl) (Nat.le_of_ble_eq_true rfl) dX3_checkLine_85
  · have w47723 := cv_ne (rfl : z47681.toInt = z47681.toInt) (by decide : (0 : Int32).toInt = 0) c47682
    refine lv_aload_n hx hb dX3_checkLine_8 rfl (lv_at hl 0 rfl) ?_
    refine lv_iconst (v := 3) hx hb dX3_checkLine_9 (by decide) ?_
    refine lv_aload_n hx hb dX3_checkLine_10 rfl (lv_at hl 0 rfl) ?_
    refine t_get (C := RX3) (T := TX3) (N := 13) X hT m0 g0 rfl rfl 0 (by decide) qw_73 inlX3 rfl dX3_checkLine_11 (fun v47724 hv47724 ov47724 => ?_)
    obtain rfl : v47724 = .ref x0 := hv47724.symm.trans pf0
    refine t_get (C := RX8) (T := TX8) (N := 8) X hT mx0 gx0 rfl rfl 4 (by decide) qw_227 inlX8 rfl dX3_checkLine_14 (fun v47725 hv47725 ov47725 => ?_)
    obtain ⟨z47726, rfl, rz47726⟩ := okV_i ov47725
    refine t_cVv (n := 2) (C := RX3) (T := TX3) (N := 13) (As := [.int 3, .int z47726]) (rest := []) X hT (kt111_X3_fail l G tag L F hT.2.2.2 p0 3 z47726 m0 g0 (by decide)) m0 g0 rfl rfl qw_287 qw_288 qw_289 qw_28 qw_290 ⟨rfl, by decide +kernel, by decide +kernel, by decide +kernel⟩ ⟨Nat.le_of_ble_eq_true rfl, Nat.le_of_ble_eq_true rfl⟩ hl rfl rfl (Nat.le_of_ble_eq_true rfl) dX3_checkLine_17 ⟨Nat.le_of_ble_eq_true rfl, Nat.le_of_ble_eq_true rfl⟩ (fun F H locs hT hz47727 => ?_)
    obtain ⟨yz47727, xz47727_0⟩ := hz47727
    have pf0 := (yz47727.1 _ 0 (Or.inr (by decide)) (Or.inr (by decide))).trans pf0
    have pf1 := (yz47727.1 _ 1 (Or.inr (by decide)) (Or.inr (by decide))).trans pf1
    have pf2 := (yz47727.1 _ 2 (Or.inr (by decide)) (Or.inr (by decide))).trans pf2
    have pf3 := (yz47727.1 _ 0 (Or.inr (by decide)) (Or.inr (by decide))).trans pf3
    have pf4 := (yz47727.1 _ 10 (Or.inr (by decide)) (Or.inr (by decide))).trans pf4
    have pf5 := (yz47727.1 _ 11 (Or.inr (by decide)) (Or.inr (by decide))).trans pf5
    have hv47725 := (yz47727.1 _ 4 (Or.inr (by decide)) (Or.inl (by rw [gx0]; decide))).trans hv47725
    have hfr : (∀ b j : Nat, (tag b ≠ 25 ∨ j ≠ 3) → (tag b ≠ 25 ∨ j ≠ 4) → fld F b j = fld Fo b j) ∧ EF tag F Fo := ⟨fun b j n25_3 n25_4 => (yz47727.1 b j n25_3 n25_4).trans (hfr.1 b j n25_3 n25_4), fun b j hb => (yz47727.2 b j hb).trans (hfr.2 b j hb)⟩
    obtain ⟨z47728, qz47728, rz47728⟩ := xz47727_0
    refine lv_goto (tgt := 85) hx hb dX3_checkLine_20 (by decide) ?_
    exact t_vret hQ X hT hfr (Nat.le_of_ble_eq_true rfl) (Nat.le_of_ble_eq_true rfl) dX3_checkLine_85
set_option maxHeartbeats 4000000 in
set_option maxRecDepth 100000 in
theorem kt128_X3_whole (l : Launch) (G : KG) (tag : Nat → Nat) (L : List Nat) (Fo : Nat → va_E) (ho : okT G ttC tag L Fo) (p0 : Nat) (p1 : Int32) (p2 : Int32) (x0 : Nat) (x1 : Nat) (x2 : Nat) (x3 : Nat) (x4 : Nat) (x5 : Nat) (m0 : p0 ∈ L) (g0 : tag p0 = 25) (h1 : 3 ≤ p1.toInt ∧ p1.toInt ≤ 3) (h2 : 12 ≤ p2.toInt ∧ p2.toInt ≤ 12) (mx0 : x0 ∈ L) (gx0 : tag x0 = 24) (pf0 : fld Fo p0 0 = .ref x0) (mx1 : x1 ∈ L) (gx1 : tag x1 = 18) (pf1 : fld Fo p0 1 = .ref x1) (mx2 : x2 ∈ L) (gx2 : tag x2 = 19) (pf2 : fld Fo p0 2 = .ref x2) (mx3 : x3 ∈ L) (gx3 : tag x3 = 1) (pf3 : fld Fo x0 0 = .ref x3) (mx4 : x4 ∈ L) (gx4 : tag x4 = 14) (pf4 : fld Fo p0 10 = .ref x4) (mx5 : x5 ∈ L) (gx5 : tag x5 = 15) (pf5 : fld Fo p0 11 = .ref x5) : TMi l yX3_whole cX3_whole 4 (some .int) { frames := 3, cells := 0, slots := 0, locals := 62 } G ttC tag L Fo [.ref p0, .int p1, .int p2] (fun r F1 => (3 ≤ r.toInt ∧ r.toInt ≤ 12) ∧ ((∀ b j : Nat, (tag b ≠ 24 ∨ j ≠ 2) → (tag b ≠ 24 ∨ j ≠ 3) → (tag b ≠ 24 ∨ j ≠ 4) → (tag b ≠ 24 ∨ j ≠ 5) → (tag b ≠ 24 ∨ j ≠ 6) → (tag b ≠ 24 ∨ j ≠ 7) → (tag b ≠ 25 ∨ j ≠ 3) → (tag b ≠ 25 ∨ j ≠ 4) → fld F1 b j = fld Fo b j) ∧ EF tag F1 Fo)) := by
  refine t_bodyi (y := yX3_whole) (cd := cX3_whole) (mL := 4) (rt := (some .int)) (rm := { frames := 3, cells := 0, slots := 0, locals := 62 }) (av := [.ref p0, .int p1, .int p2]) (by decide) (Nat.le_of_ble_eq_true rfl) ho ?_
  intro p e s m args below meth c ls A Q hQ X hT hl
  have hx := X.1.1
  have hb := X.1.2.1
  have hl : lv_has ls 4 [(0, .ref p0), (1, .int p1), (2, .int p2)] := hl
  obtain ⟨F, hFo⟩ : ∃ F : Nat → va_E, F = Fo := ⟨_, rfl⟩
  rw [← hFo] at hT pf0 pf1 pf2 pf3 pf4 pf5
  have hfr : (∀ b j : Nat, (tag b ≠ 24 ∨ j ≠ 2) → (tag b ≠ 24 ∨ j ≠ 3) → (tag b ≠ 24 ∨ j ≠ 4) → (tag b ≠ 24 ∨ j ≠ 5) → (tag b ≠ 24 ∨ j ≠ 6) → (tag b ≠ 24 ∨ j ≠ 7) → (tag b ≠ 25 ∨ j ≠ 3) → (tag b ≠ 25 ∨ j ≠ 4) → fld F b j = fld Fo b j) ∧ EF tag F Fo := by
    rw [hFo]
    exact ⟨by intros; rfl, fun _ _ _ => rfl⟩
  refine lv_aload_n hx hb dX3_whole_0 rfl (lv_at hl 0 rfl) ?_
  refine t_get (C := RX3) (T := TX3) (N := 13) X hT m0 g0 rfl rfl 0 (by decide) qw_73 inlX3 rfl dX3_whole_1 (fun v48323 hv48323 ov48323 => ?_)
  obtain rfl : v48323 = .ref x0 := hv48323.symm.trans pf0
  refine t_get (C := RX8) (T := TX8) (N := 8) X hT mx0 gx0 rfl rfl 3 (by decide) qw_170 inlX8 rfl dX3_whole_4 (fun v48324 hv48324 ov48324 => ?_)
  obtain ⟨z48325, rfl, rz48325⟩ := okV_i ov48324
  refine lv_iconst (v := 2) hx hb dX3_whole_7 (by decide) ?_
  refine lv_icmp_eq (tgt := 26) hx hb dX3_whole_8 (by decide) (fun c48326 => ?_) (fun c48326 => ?_)
  · have w48327 := cv_eq (rfl : z48325.toInt = z48325.toInt) (by decide : (2 : Int32).toInt = 2) c48326
    refine lv_aload_n hx hb dX3_whole_26 rfl (lv_at hl 0 rfl) ?_
    refine t_get (C := RX3) (T := TX3) (N := 13) X hT m0 g0 rfl rfl 0 (by decide) qw_73 inlX3 rfl dX3_whole_27 (fun v48328 hv48328 ov48328 => ?_)
    obtain rfl : v48328 = .ref x0 := hv48328.symm.trans pf0
    refine t_get (C := RX8) (T := TX8) (N := 8) X hT mx0 gx0 rfl rfl 6 (by decide) qw_322 inlX8 rfl dX3_whole_30 (fun v48329 hv48329 ov48329 => ?_)
    obtain ⟨z48330, rfl, rz48330⟩ := okV_i ov48329
    refine lv_iload_n hx hb dX3_whole_33 rfl (lv_at hl 1 rfl) ?_
    refine lv_icmp_lt (tgt := 48) hx hb dX3_whole_34 (by decide) (fun c48331 => ?_) (fun c48331 => ?_)
    · have w48332 := cv_lt (rfl : z48330.toInt = z48330.toInt) (rfl : p1.toInt = p1.toInt) c48331
      refine lv_aload_n hx hb dX3_whole_48 rfl (lv_at hl 0 rfl) ?_
      refine lv_iconst (v := 4) hx hb dX3_whole_49 (by decide) ?_
      refine lv_aload_n hx hb dX3_whole_50 rfl (lv_at hl 0 rfl) ?_
      refine t_get (C := RX3) (T := TX3) (N := 13) X hT m0 g0 rfl rfl 0 (by decide) qw_73 inlX3 rfl dX3_whole_51 (fun v48333 hv48333 ov48333 => ?_)
      obtain rfl : v48333 = .ref x0 := hv48333.symm.trans pf0
      refine t_get (C := RX8) (T := TX8) (N := 8) X hT mx0 gx0 rfl rfl 4 (by decide) qw_227 inlX8 rfl dX3_whole_54 (fun v48334 hv48334 ov48334 => ?_)
      obtain ⟨z48335, rfl, rz48335⟩ := okV_i ov48334
      refine t_cVv (n := 2) (C := RX3) (T := TX3) (N := 13) (As := [.int 4, .int z48335]) (rest := []) X hT (kt111_X3_fail l G tag L F hT.2.2.2 p0 4 z48335 m0 g0 (by decide)) m0 g0 rfl rfl qw_287 qw_288 qw_289 qw_28 qw_290 ⟨rfl, by decide +kernel, by decide +kernel, by decide +kernel⟩ ⟨Nat.le_of_ble_eq_true rfl, Nat.le_of_ble_eq_true rfl⟩ hl rfl rfl (Nat.le_of_ble_eq_true rfl) dX3_whole_57 ⟨Nat.le_of_ble_eq_true rfl, Nat.le_of_ble_eq_true rfl⟩ (fun F H locs hT hz48336 => ?_)
      obtain ⟨yz48336, xz48336_0⟩ := hz48336
      have pf0 := (yz48336.1 _ 0 (Or.inr (by decide)) (Or.inr (by decide))).trans pf0
      have pf1 := (yz48336.1 _ 1 (Or.inr (by decide)) (Or.inr (by decide))).trans pf1
      have pf2 := (yz48336.1 _ 2 (Or.inr (by decide)) (Or.inr (by decide))).trans pf2
      have pf3 := (yz48336.1 _ 0 (Or.inr (by decide)) (Or.inr (by decide))).trans pf3
      have pf4 := (yz48336.1 _ 10 (Or.inr (by decide)) (Or.inr (by decide))).trans pf4
      have pf5 := (yz48336.1 _ 11 (Or.inr (by decide)) (Or.inr (by decide))).trans pf5
      have hv48324 := (yz48336.1 _ 3 (Or.inl (by rw [gx0]; decide)) (Or.inr (by decide))).trans hv48324
      have hv48329 := (yz48336.1 _ 6 (Or.inr (by decide)) (Or.inr (by decide))).trans hv48329
      have hv48334 := (yz48336.1 _ 4 (Or.inr (by decide)) (Or.inl (by rw [gx0]; decide))).trans hv48334
      have hfr : (∀ b j : Nat, (tag b ≠ 24 ∨ j ≠ 2) → (tag b ≠ 24 ∨ j ≠ 3) → (tag b ≠ 24 ∨ j ≠ 4) → (tag b ≠ 24 ∨ j ≠ 5) → (tag b ≠ 24 ∨ j ≠ 6) → (tag b ≠ 24 ∨ j ≠ 7) → (tag b ≠ 25 ∨ j ≠ 3) → (tag b ≠ 25 ∨ j ≠ 4) → fld F b j = fld Fo b j) ∧ EF tag F Fo := ⟨fun b j n24_2 n24_3 n24_4 n24_5 n24_6 n24_7 n25_3 n25_4 => (yz48336.1 b j n25_3 n25_4).trans (hfr.1 b j n24_2 n24_3 n24_4 n24_5 n24_6 n24_7 n25_3 n25_4), fun b j hb => (yz48336.2 b j hb).trans (hfr.2 b j hb)⟩
      obtain ⟨z48337, qz48337, rz48337⟩ := xz48336_0
      refine lv_aload_n hx hb dX3_whole_60 rfl (lv_at hl 0 rfl) ?_
      refine t_get (C := RX3) (T := TX3) (N := 13) X hT m0 g0 rfl rfl 3 (by decide) qw_163 inlX3 rfl dX3_whole_61 (fun v48338 hv48338 ov48338 => ?_)
      obtain rfl : v48338 = .int z48337 := hv48338.symm.trans qz48337
      refine lv_if_eq (tgt := 69) hx hb dX3_whole_64 (by decide) (fun c48339 => ?_) (fun c48339 => ?_)
      · have w48340 := cv_eq (rfl : z48337.toInt = z48337.toInt) (by decide : (0 : Int32).toInt = 0) c48339
        exfalso
        omega
      · have w48341 := cv_ne (rfl : z48337.toInt = z48337.toInt) (by decide : (0 : Int32).toInt = 0) c48339
        refine lv_iload_n hx hb dX3_whole_67 rfl (lv_at hl 1 rfl) ?_
        exact t_iret hQ X hT (⟨(by omega), hfr⟩) (Nat.le_of_ble_eq_true rfl) (Nat.le_of_ble_eq_true rfl) dX3_whole_68
    · have w48342 := cv_nlt (rfl : z48330.toInt = z48330.toInt) (rfl : p1.toInt = p1.toInt) c48331
      refine lv_aload_n hx hb dX3_whole_37 rfl (lv_at hl 0 rfl) ?_
      refine t_get (C := RX3) (T := TX3) (N := 13) X hT m0 g0 rfl rfl 0 (by decide) qw_73 inlX3 rfl dX3_whole_38 (fun v48343 hv48343 ov48343 => ?_)
      obtain rfl : v48343 = .ref x0 := hv48343.symm.trans pf0
      refine t_get (C := RX8) (T := TX8) (N := 8) X hT mx0 gx0 rfl rfl 6 (by decide) qw_322 inlX8 rfl dX3_whole_41 (fun v48344 hv48344 ov48344 => ?_)
      obtain rfl : v48344 = .int z48330 := hv48344.symm.trans hv48329
      refine lv_iload_n hx hb dX3_whole_44 rfl (lv_at hl 2 rfl) ?_
      refine lv_icmp_le (tgt := 60) hx hb dX3_whole_45 (by decide) (fun c48345 => ?_) (fun c48345 => ?_)
      · have w48346 := cv_le (rfl : z48330.toInt = z48330.toInt) (rfl : p2.toInt = p2.toInt) c48345
        refine lv_aload_n hx hb dX3_whole_60 rfl (lv_at hl 0 rfl) ?_
        refine t_get (C := RX3) (T := TX3) (N := 13) X hT m0 g0 rfl rfl 3 (by decide) qw_163 inlX3 rfl dX3_whole_61 (fun v48347 hv48347 ov48347 => ?_)
        obtain ⟨z48348, rfl, rz48348⟩ := okV_i ov48347
        refine lv_if_eq (tgt := 69) hx hb dX3_whole_64 (by decide) (fun c48349 => ?_) (fun c48349 => ?_)
        · have w48350 := cv_eq (rfl : z48348.toInt = z48348.toInt) (by decide : (0 : Int32).toInt = 0) c48349
          refine lv_aload_n hx hb dX3_whole_69 rfl (lv_at hl 0 rfl) ?_
          refine t_get (C := RX3) (T := TX3) (N := 13) X hT m0 g0 rfl rfl 0 (by decide) qw_73 inlX3 rfl dX3_whole_70 (fun v48351 hv48351 ov48351 => ?_)
          obtain rfl : v48351 = .ref x0 := hv48351.symm.trans pf0
          refine t_get (C := RX8) (T := TX8) (N := 8) X hT mx0 gx0 rfl rfl 6 (by decide) qw_322 inlX8 rfl dX3_whole_73 (fun v48352 hv48352 ov48352 => ?_)
          obtain rfl : v48352 = .int z48330 := hv48352.symm.trans hv48329
          refine lv_istore_n (lv' := [(3, .int z48330), (0, .ref p0), (1, .int p1), (2, .int p2)]) hx hb dX3_whole_76 rfl hl (by decide) rfl (fun ls hl => ?_)
          refine lv_aload_n hx hb dX3_whole_77 rfl (lv_at hl 1 rfl) ?_
          refine t_get (C := RX3) (T := TX3) (N := 13) X hT m0 g0 rfl rfl 0 (by decide) qw_73 inlX3 rfl dX3_whole_78 (fun v48353 hv48353 ov48353 => ?_)
          obtain rfl : v48353 = .ref x0 := hv48353.symm.trans pf0
          refine t_cVv (n := 0) (C := RX8) (T := TX8) (N := 8) (As := []) (rest := []) X hT (kt98_X8_advance l G tag L F hT.2.2.2 x0 x3 mx0 gx0 mx3 gx3 pf3) mx0 gx0 rfl rfl qw_305 qw_197 qw_198 qw_72 qw_199 ⟨rfl, by decide +kernel, by decide +kernel, by decide +kernel⟩ ⟨Nat.le_of_ble_eq_true rfl, Nat.le_of_ble_eq_true rfl⟩ hl rfl rfl (Nat.le_of_ble_eq_true rfl) dX3_whole_81 ⟨Nat.le_of_ble_eq_true rfl, Nat.le_of_ble_eq_true rfl⟩ (fun F H locs hT hz48354 => ?_)
          have yz48354 := hz48354
          have pf0 := (yz48354.1 _ 0 (Or.inr (by decide)) (Or.inr (by decide)) (Or.inr (by decide)) (Or.inr (by decide)) (Or.inr (by decide)) (Or.inr (by decide))).trans pf0
          have pf1 := (yz48354.1 _ 1 (Or.inr (by decide)) (Or.inr (by decide)) (Or.inr (by decide)) (Or.inr (by decide)) (Or.inr (by decide)) (Or.inr (by decide))).trans pf1
          have pf2 := (yz48354.1 _ 2 (Or.inl (by rw [g0]; decide)) (Or.inr (by decide)) (Or.inr (by decide)) (Or.inr (by decide)) (Or.inr (by decide)) (Or.inr (by decide))).trans pf2
          have pf3 := (yz48354.1 _ 0 (Or.inr (by decide)) (Or.inr (by decide)) (Or.inr (by decide)) (Or.inr (by decide)) (Or.inr (by decide)) (Or.inr (by decide))).trans pf3
          have pf4 := (yz48354.1 _ 10 (Or.inr (by decide)) (Or.inr (by decide)) (Or.inr (by decide)) (Or.inr (by decide)) (Or.inr (by decide)) (Or.inr (by decide))).trans pf4
          have pf5 := (yz48354.1 _ 11 (Or.inr (by decide)) (Or.inr (by decide)) (Or.inr (by decide)) (Or.inr (by decide)) (Or.inr (by decide)) (Or.inr (by decide))).trans pf5
          have hv48347 := (yz48354.1 _ 3 (Or.inr (by decide)) (Or.inl (by rw [g0]; decide)) (Or.inr (by decide)) (Or.inr (by decide)) (Or.inr (by decide)) (Or.inr (by decide))).trans hv48347
          have hfr : (∀ b j : Nat, (tag b ≠ 24 ∨ j ≠ 2) → (tag b ≠ 24 ∨ j ≠ 3) → (tag b ≠ 24 ∨ j ≠ 4) → (tag b ≠ 24 ∨ j ≠ 5) → (tag b ≠ 24 ∨ j ≠ 6) → (tag b ≠ 24 ∨ j ≠ 7) → (tag b ≠ 25 ∨ j ≠ 3) → (tag b ≠ 25 ∨ j ≠ 4) → fld F b j = fld Fo b j) ∧ EF tag F Fo := ⟨fun b j n24_2 n24_3 n24_4 n24_5 n24_6 n24_7 n25_3 n25_4 => (yz48354.1 b j n24_2 n24_3 n24_4 n24_5 n24_6 n24_7).trans (hfr.1 b j n24_2 n24_3 n24_4 n24_5 n24_6 n24_7 n25_3 n25_4), fun b j hb => (yz48354.2 b j hb).trans (hfr.2 b j hb)⟩
          refine lv_iload_n hx hb dX3_whole_84 rfl (lv_at hl 0 rfl) ?_
          exact t_iret hQ X hT (⟨(by omega), hfr⟩) (Nat.le_of_ble_eq_true rfl) (Nat.le_of_ble_eq_true rfl) dX3_whole_85
        · have w48355 := cv_ne (rfl : z48348.toInt = z48348.toInt) (by decide : (0 : Int32).toInt = 0) c48349
          refine lv_iload_n hx hb dX3_whole_67 rfl (lv_at hl 1 rfl) ?_
          exact t_iret hQ X hT (⟨(by omega), hfr⟩) (Nat.le_of_ble_eq_true rfl) (Nat.le_of_ble_eq_true rfl) dX3_whole_68
      · have w48356 := cv_nle (rfl : z48330.toInt = z48330.toInt) (rfl : p2.toInt = p2.toInt) c48345
        refine lv_aload_n hx hb dX3_whole_48 rfl (lv_at hl 0 rfl) ?_
        refine lv_iconst (v := 4) hx hb dX3_whole_49 (by decide) ?_
        refine lv_aload_n hx hb dX3_whole_50 rfl (lv_at hl 0 rfl) ?_
        refine t_get (C := RX3) (T := TX3) (N := 13) X hT m0 g0 rfl rfl 0 (by decide) qw_73 inlX3 rfl dX3_whole_51 (fun v48357 hv48357 ov48357 => ?_)
        obtain rfl : v48357 = .ref x0 := hv48357.symm.trans pf0
        refine t_get (C := RX8) (T := TX8) (N := 8) X hT mx0 gx0 rfl rfl 4 (by decide) qw_227 inlX8 rfl dX3_whole_54 (fun v48358 hv48358 ov48358 => ?_)
        obtain ⟨z48359, rfl, rz48359⟩ := okV_i ov48358
        refine t_cVv (n := 2) (C := RX3) (T := TX3) (N := 13) (As := [.int 4, .int z48359]) (rest := []) X hT (kt111_X3_fail l G tag L F hT.2.2.2 p0 4 z48359 m0 g0 (by decide)) m0 g0 rfl rfl qw_287 qw_288 qw_289 qw_28 qw_290 ⟨rfl, by decide +kernel, by decide +kernel, by decide +kernel⟩ ⟨Nat.le_of_ble_eq_true rfl, Nat.le_of_ble_eq_true rfl⟩ hl rfl rfl (Nat.le_of_ble_eq_true rfl) dX3_whole_57 ⟨Nat.le_of_ble_eq_true rfl, Nat.le_of_ble_eq_true rfl⟩ (fun F H locs hT hz48360 => ?_)
        obtain ⟨yz48360, xz48360_0⟩ := hz48360
        have pf0 := (yz48360.1 _ 0 (Or.inr (by decide)) (Or.inr (by decide))).trans pf0
        have pf1 := (yz48360.1 _ 1 (Or.inr (by decide)) (Or.inr (by decide))).trans pf1
        have pf2 := (yz48360.1 _ 2 (Or.inr (by decide)) (Or.inr (by decide))).trans pf2
        have pf3 := (yz48360.1 _ 0 (Or.inr (by decide)) (Or.inr (by decide))).trans pf3
        have pf4 := (yz48360.1 _ 10 (Or.inr (by decide)) (Or.inr (by decide))).trans pf4
        have pf5 := (yz48360.1 _ 11 (Or.inr (by decide)) (Or.inr (by decide))).trans pf5
        have hv48324 := (yz48360.1 _ 3 (Or.inl (by rw [gx0]; decide)) (Or.inr (by decide))).trans hv48324
        have hv48329 := (yz48360.1 _ 6 (Or.inr (by decide)) (Or.inr (by decide))).trans hv48329
        have hv48358 := (yz48360.1 _ 4 (Or.inr (by decide)) (Or.inl (by rw [gx0]; decide))).trans hv48358
        have hfr : (∀ b j : Nat, (tag b ≠ 24 ∨ j ≠ 2) → (tag b ≠ 24 ∨ j ≠ 3) → (tag b ≠ 24 ∨ j ≠ 4) → (tag b ≠ 24 ∨ j ≠ 5) → (tag b ≠ 24 ∨ j ≠ 6) → (tag b ≠ 24 ∨ j ≠ 7) → (tag b ≠ 25 ∨ j ≠ 3) → (tag b ≠ 25 ∨ j ≠ 4) → fld F b j = fld Fo b j) ∧ EF tag F Fo := ⟨fun b j n24_2 n24_3 n24_4 n24_5 n24_6 n24_7 n25_3 n25_4 => (yz48360.1 b j n25_3 n25_4).trans (hfr.1 b j n24_2 n24_3 n24_4 n24_5 n24_6 n24_7 n25_3 n25_4), fun b j hb => (yz48360.2 b j hb).trans (hfr.2 b j hb)⟩
        obtain ⟨z48361, qz48361, rz48361⟩ := xz48360_0
        refine lv_aload_n hx hb dX3_whole_60 rfl (lv_at hl 0 rfl) ?_
        refine t_get (C := RX3) (T := TX3) (N := 13) X hT m0 g0 rfl rfl 3 (by decide) qw_163 inlX3 rfl dX3_whole_61 (fun v48362 hv48362 ov48362 => ?_)
        obtain rfl : v48362 = .int z48361 := hv48362.symm.trans qz48361
        refine lv_if_eq (tgt := 69) hx hb dX3_whole_64 (by decide) (fun c48363 => ?_) (fun c48363 => ?_)
        · have w48364 := cv_eq (rfl : z48361.toInt = z48361.toInt) (by decide : (0 : Int32).toInt = 0) c48363
          exfalso
          omega
        · have w48365 := cv_ne (rfl : z48361.toInt = z48361.toInt) (by decide : (0 : Int32).toInt = 0) c48363
          refine lv_iload_n hx hb dX3_whole_67 rfl (lv_at hl 1 rfl) ?_
          exact t_iret hQ X hT (⟨(by omega), hfr⟩) (Nat.le_of_ble_eq_true rfl) (Nat.le_of_ble_eq_true rfl) dX3_whole_68
  · have w48366 := cv_ne (rfl : z48325.toInt = z48325.toInt) (by decide : (2 : Int32).toInt = 2) c48326
    refine lv_aload_n hx hb dX3_whole_11 rfl (lv_at hl 0 rfl) ?_
    refine lv_iconst (v := 1) hx hb dX3_whole_12 (by decide) ?_
    refine lv_aload_n hx hb dX3_whole_13 rfl (lv_at hl 0 rfl) ?_
    refine t_get (C := RX3) (T := TX3) (N := 13) X hT m0 g0 rfl rfl 0 (by decide) qw_73 inlX3 rfl dX3_whole_14 (fun v48367 hv48367 ov48367 => ?_)
    obtain rfl : v48367 = .ref x0 := hv48367.symm.trans pf0
    refine t_get (C := RX8) (T := TX8) (N := 8) X hT mx0 gx0 rfl rfl 4 (by decide) qw_227 inlX8 rfl dX3_whole_17 (fun v48368 hv48368 ov48368 => ?_)
    obtain ⟨z48369, rfl, rz48369⟩ := okV_i ov48368
    refine t_cVv (n := 2) (C := RX3) (T := TX3) (N := 13) (As := [.int 1, .int z48369]) (rest := []) X hT (kt111_X3_fail l G tag L F hT.2.2.2 p0 1 z48369 m0 g0 (by decide)) m0 g0 rfl rfl qw_287 qw_288 qw_289 qw_28 qw_290 ⟨rfl, by decide +kernel, by decide +kernel, by decide +kernel⟩ ⟨Nat.le_of_ble_eq_true rfl, Nat.le_of_ble_eq_true rfl⟩ hl rfl rfl (Nat.le_of_ble_eq_true rfl) dX3_whole_20 ⟨Nat.le_of_ble_eq_true rfl, Nat.le_of_ble_eq_true rfl⟩ (fun F H locs hT hz48370 => ?_)
    obtain ⟨yz48370, xz48370_0⟩ := hz48370
    have pf0 := (yz48370.1 _ 0 (Or.inr (by decide)) (Or.inr (by decide))).trans pf0
    have pf1 := (yz48370.1 _ 1 (Or.inr (by decide)) (Or.inr (by decide))).trans pf1
    have pf2 := (yz48370.1 _ 2 (Or.inr (by decide)) (Or.inr (by decide))).trans pf2
    have pf3 := (yz48370.1 _ 0 (Or.inr (by decide)) (Or.inr (by decide))).trans pf3
    have pf4 := (yz48370.1 _ 10 (Or.inr (by decide)) (Or.inr (by decide))).trans pf4
    have pf5 := (yz48370.1 _ 11 (Or.inr (by decide)) (Or.inr (by decide))).trans pf5
    have hv48324 := (yz48370.1 _ 3 (Or.inl (by rw [gx0]; decide)) (Or.inr (by decide))).trans hv48324
    have hv48368 := (yz48370.1 _ 4 (Or.inr (by decide)) (Or.inl (by rw [gx0]; decide))).trans hv48368
    have hfr : (∀ b j : Nat, (tag b ≠ 24 ∨ j ≠ 2) → (tag b ≠ 24 ∨ j ≠ 3) → (tag b ≠ 24 ∨ j ≠ 4) → (tag b ≠ 24 ∨ j ≠ 5) → (tag b ≠ 24 ∨ j ≠ 6) → (tag b ≠ 24 ∨ j ≠ 7) → (tag b ≠ 25 ∨ j ≠ 3) → (tag b ≠ 25 ∨ j ≠ 4) → fld F b j = fld Fo b j) ∧ EF tag F Fo := ⟨fun b j n24_2 n24_3 n24_4 n24_5 n24_6 n24_7 n25_3 n25_4 => (yz48370.1 b j n25_3 n25_4).trans (hfr.1 b j n24_2 n24_3 n24_4 n24_5 n24_6 n24_7 n25_3 n25_4), fun b j hb => (yz48370.2 b j hb).trans (hfr.2 b j hb)⟩
    obtain ⟨z48371, qz48371, rz48371⟩ := xz48370_0
    refine lv_goto (tgt := 60) hx hb dX3_whole_23 (by decide) ?_
    refine lv_aload_n hx hb dX3_whole_60 rfl (lv_at hl 0 rfl) ?_
    refine t_get (C := RX3) (T := TX3) (N := 13) X hT m0 g0 rfl rfl 3 (by decide) qw_163 inlX3 rfl dX3_whole_61 (fun v48372 hv48372 ov48372 => ?_)
    obtain rfl : v48372 = .int z48371 := hv48372.symm.trans qz48371
    refine lv_if_eq (tgt := 69) hx hb dX3_whole_64 (by decide) (fun c48373 => ?_) (fun c48373 => ?_)
    · have w48374 := cv_eq (rfl : z48371.toInt = z48371.toInt) (by decide : (0 : Int32).toInt = 0) c48373
      exfalso
      omega
    · have w48375 := cv_ne (rfl : z48371.toInt = z48371.toInt) (by decide : (0 : Int32).toInt = 0) c48373
      refine lv_iload_n hx hb dX3_whole_67 rfl (lv_at hl 1 rfl) ?_
      exact t_iret hQ X hT (⟨(by omega), hfr⟩) (Nat.le_of_ble_eq_true rfl) (Nat.le_of_ble_eq_true rfl) dX3_whole_68
set_option maxHeartbeats 4000000 in
set_option maxRecDepth 100000 in
theorem kt129_X3_choice (l : Launch) (G : KG) (tag : Nat → Nat) (L : List Nat) (Fo : Nat → va_E) (ho : okT G ttC tag L Fo) (p0 : Nat) (p1 : Nat) (p2 : Nat) (p3 : Nat) (p4 : Nat) (x0 : Nat) (x1 : Nat) (x2 : Nat) (x3 : Nat) (x4 : Nat) (x5 : Nat) (m0 : p0 ∈ L) (g0 : tag p0 = 25) (h1 : p1 < 77) (h2 : p2 < 77) (h3 : p3 < 77) (h4 : p4 < 77) (mx0 : x0 ∈ L) (gx0 : tag x0 = 24) (pf0 : fld Fo p0 0 = .ref x0) (mx1 : x1 ∈ L) (gx1 : tag x1 = 18) (pf1 : fld Fo p0 1 = .ref x1) (mx2 : x2 ∈ L) (gx2 : tag x2 = 19) (pf2 : fld Fo p0 2 = .ref x2) (mx3 : x3 ∈ L) (gx3 : tag x3 = 1) (pf3 : fld Fo x0 0 = .ref x3) (mx4 : x4 ∈ L) (gx4 : tag x4 = 14) (pf4 : fld Fo p0 10 = .ref x4) (mx5 : x5 ∈ L) (gx5 : tag x5 = 15) (pf5 : fld Fo p0 11 = .ref x5) : TMi l yX3_choice cX3_choice 6 (some .int) { frames := 5, cells := 0, slots := 0, locals := 108 } G ttC tag L Fo [.ref p0, .ref (G.2 (100 + p1)), .ref (G.2 (100 + p2)), .ref (G.2 (100 + p3)), .ref (G.2 (100 + p4))] (fun r F1 => ((-1) ≤ r.toInt ∧ r.toInt ≤ 3) ∧ ((∀ b j : Nat, (tag b ≠ 24 ∨ j ≠ 2) → (tag b ≠ 24 ∨ j ≠ 3) → (tag b ≠ 24 ∨ j ≠ 4) → (tag b ≠ 24 ∨ j ≠ 5) → (tag b ≠ 24 ∨ j ≠ 6) → (tag b ≠ 24 ∨ j ≠ 7) → (tag b ≠ 25 ∨ j ≠ 3) → (tag b ≠ 25 ∨ j ≠ 4) → fld F1 b j = fld Fo b j) ∧ EF tag F1 Fo)) := by
  refine t_bodyi (y := yX3_choice) (cd := cX3_choice) (mL := 6) (rt := (some .int)) (rm := { frames := 5, cells := 0, slots := 0, locals := 108 }) (av := [.ref p0, .ref (G.2 (100 + p1)), .ref (G.2 (100 + p2)), .ref (G.2 (100 + p3)), .ref (G.2 (100 + p4))]) (by decide) (Nat.le_of_ble_eq_true rfl) ho ?_
  intro p e s m args below meth c ls A Q hQ X hT hl
  have hx := X.1.1
  have hb := X.1.2.1
  have hl : lv_has ls 6 [(0, .ref p0), (1, .ref (G.2 (100 + p1))), (2, .ref (G.2 (100 + p2))), (3, .ref (G.2 (100 + p3))), (4, .ref (G.2 (100 + p4)))] := hl
  obtain ⟨F, hFo⟩ : ∃ F : Nat → va_E, F = Fo := ⟨_, rfl⟩
  rw [← hFo] at hT pf0 pf1 pf2 pf3 pf4 pf5
  have hfr : (∀ b j : Nat, (tag b ≠ 24 ∨ j ≠ 2) → (tag b ≠ 24 ∨ j ≠ 3) → (tag b ≠ 24 ∨ j ≠ 4) → (tag b ≠ 24 ∨ j ≠ 5) → (tag b ≠ 24 ∨ j ≠ 6) → (tag b ≠ 24 ∨ j ≠ 7) → (tag b ≠ 25 ∨ j ≠ 3) → (tag b ≠ 25 ∨ j ≠ 4) → fld F b j = fld Fo b j) ∧ EF tag F Fo := by
    rw [hFo]
    exact ⟨by intros; rfl, fun _ _ _ => rfl⟩
  have K82 : ∀ (z48938 : Int32) (F : Nat → va_E) (H : Heap) (locs : List Loc) (ls : Array Slot), ((-1) ≤ z48938.toInt ∧ z48938.toInt ≤ 3) → TH G ttC A s tag L F H locs → ((∀ b j : Nat, (tag b ≠ 24 ∨ j ≠ 2) → (tag b ≠ 24 ∨ j ≠ 3) → (tag b ≠ 24 ∨ j ≠ 4) → (tag b ≠ 24 ∨ j ≠ 5) → (tag b ≠ 24 ∨ j ≠ 6) → (tag b ≠ 24 ∨ j ≠ 7) → (tag b ≠ 25 ∨ j ≠ 3) → (tag b ≠ 25 ∨ j ≠ 4) → fld F b j = fld Fo b j) ∧ EF tag F Fo) → fld F p0 0 = .ref x0 → fld F p0 1 = .ref x1 → fld F p0 2 = .ref x2 → fld F x0 0 = .ref x3 → fld F p0 10 = .ref x4 → fld F p0 11 = .ref x5 → lv_has ls 6 [(0, .ref p0), (1, .ref (G.2 (100 + p1))), (2, .ref (G.2 (100 + p2))), (3, .ref (G.2 (100 + p3))), (4, .ref (G.2 (100 + p4))), (5, .int z48938)] → W p l e { frames := 5, cells := 0, slots := 0, locals := 108 } s m args below meth c H locs 0 0 Q (F0 m 82 ls []) := by
    intro z48938 F H locs ls rz48938 hT hfr pf0 pf1 pf2 pf3 pf4 pf5 hl
    refine lv_aload_n hx hb dX3_choice_82 rfl (lv_at hl 0 rfl) ?_
    refine t_get (C := RX3) (T := TX3) (N := 13) X hT m0 g0 rfl rfl 3 (by decide) qw_163 inlX3 rfl dX3_choice_83 (fun v48939 hv48939 ov48939 => ?_)
    obtain ⟨z48940, rfl, rz48940⟩ := okV_i ov48939
    refine lv_if_eq (tgt := 91) hx hb dX3_choice_86 (by decide) (fun c48941 => ?_) (fun c48941 => ?_)
    · have w48942 := cv_eq (rfl : z48940.toInt = z48940.toInt) (by decide : (0 : Int32).toInt = 0) c48941
      refine lv_aload_n hx hb dX3_choice_91 rfl (lv_at hl 0 rfl) ?_
      refine t_get (C := RX3) (T := TX3) (N := 13) X hT m0 g0 rfl rfl 0 (by decide) qw_73 inlX3 rfl dX3_choice_92 (fun v48943 hv48943 ov48943 => ?_)
      obtain rfl : v48943 = .ref x0 := hv48943.symm.trans pf0
      refine t_cVv (n := 0) (C := RX8) (T := TX8) (N := 8) (As := []) (rest := []) X hT (kt98_X8_advance l G tag L F hT.2.2.2 x0 x3 mx0 gx0 mx3 gx3 pf3) mx0 gx0 rfl rfl qw_305 qw_197 qw_198 qw_72 qw_199 ⟨rfl, by decide +kernel, by decide +kernel, by decide +kernel⟩ ⟨Nat.le_of_ble_eq_true rfl, Nat.le_of_ble_eq_true rfl⟩ hl rfl rfl (Nat.le_of_ble_eq_true rfl) dX3_choice_95 ⟨Nat.le_of_ble_eq_true rfl, Nat.le_of_ble_eq_true rfl⟩ (fun F H locs hT hz48944 => ?_)
      have yz48944 := hz48944
      have pf0 := (yz48944.1 _ 0 (Or.inr (by decide)) (Or.inr (by decide)) (Or.inr (by decide)) (Or.inr (by decide)) (Or.inr (by decide)) (Or.inr (by decide))).trans pf0
      have pf1 := (yz48944.1 _ 1 (Or.inr (by decide)) (Or.inr (by decide)) (Or.inr (by decide)) (Or.inr (by decide)) (Or.inr (by decide)) (Or.inr (by decide))).trans pf1
      have pf2 := (yz48944.1 _ 2 (Or.inl (by rw [g0]; decide)) (Or.inr (by decide)) (Or.inr (by decide)) (Or.inr (by decide)) (Or.inr (by decide)) (Or.inr (by decide))).trans pf2
      have pf3 := (yz48944.1 _ 0 (Or.inr (by decide)) (Or.inr (by decide)) (Or.inr (by decide)) (Or.inr (by decide)) (Or.inr (by decide)) (Or.inr (by decide))).trans pf3
      have pf4 := (yz48944.1 _ 10 (Or.inr (by decide)) (Or.inr (by decide)) (Or.inr (by decide)) (Or.inr (by decide)) (Or.inr (by decide)) (Or.inr (by decide))).trans pf4
      have pf5 := (yz48944.1 _ 11 (Or.inr (by decide)) (Or.inr (by decide)) (Or.inr (by decide)) (Or.inr (by decide)) (Or.inr (by decide)) (Or.inr (by decide))).trans pf5
      have hv48939 := (yz48944.1 _ 3 (Or.inr (by decide)) (Or.inl (by rw [g0]; decide)) (Or.inr (by decide)) (Or.inr (by decide)) (Or.inr (by decide)) (Or.inr (by decide))).trans hv48939
      have hfr : (∀ b j : Nat, (tag b ≠ 24 ∨ j ≠ 2) → (tag b ≠ 24 ∨ j ≠ 3) → (tag b ≠ 24 ∨ j ≠ 4) → (tag b ≠ 24 ∨ j ≠ 5) → (tag b ≠ 24 ∨ j ≠ 6) → (tag b ≠ 24 ∨ j ≠ 7) → (tag b ≠ 25 ∨ j ≠ 3) → (tag b ≠ 25 ∨ j ≠ 4) → fld F b j = fld Fo b j) ∧ EF tag F Fo := ⟨fun b j n24_2 n24_3 n24_4 n24_5 n24_6 n24_7 n25_3 n25_4 => (yz48944.1 b j n24_2 n24_3 n24_4 n24_5 n24_6 n24_7).trans (hfr.1 b j n24_2 n24_3 n24_4 n24_5 n24_6 n24_7 n25_3 n25_4), fun b j hb => (yz48944.2 b j hb).trans (hfr.2 b j hb)⟩
      refine lv_iload hx hb dX3_choice_98 (lv_at hl 5 rfl) ?_
      exact t_iret hQ X hT (⟨(by omega), hfr⟩) (Nat.le_of_ble_eq_true rfl) (Nat.le_of_ble_eq_true rfl) dX3_choice_100
    · have w48945 := cv_ne (rfl : z48940.toInt = z48940.toInt) (by decide : (0 : Int32).toInt = 0) c48941
      refine lv_iconst (v := 0) hx hb dX3_choice_89 (by decide) ?_
      exact t_iret hQ X hT (⟨(by decide), hfr⟩) (Nat.le_of_ble_eq_true rfl) (Nat.le_of_ble_eq_true rfl) dX3_choice_90
  have K62 : ∀ (z48946 : Int32) (F : Nat → va_E) (H : Heap) (locs : List Loc) (ls : Array Slot), ((-1) ≤ z48946.toInt ∧ z48946.toInt ≤ 3) → TH G ttC A s tag L F H locs → ((∀ b j : Nat, (tag b ≠ 24 ∨ j ≠ 2) → (tag b ≠ 24 ∨ j ≠ 3) → (tag b ≠ 24 ∨ j ≠ 4) → (tag b ≠ 24 ∨ j ≠ 5) → (tag b ≠ 24 ∨ j ≠ 6) → (tag b ≠ 24 ∨ j ≠ 7) → (tag b ≠ 25 ∨ j ≠ 3) → (tag b ≠ 25 ∨ j ≠ 4) → fld F b j = fld Fo b j) ∧ EF tag F Fo) → fld F p0 0 = .ref x0 → fld F p0 1 = .ref x1 → fld F p0 2 = .ref x2 → fld F x0 0 = .ref x3 → fld F p0 10 = .ref x4 → fld F p0 11 = .ref x5 → lv_has ls 6 [(0, .ref p0), (1, .ref (G.2 (100 + p1))), (2, .ref (G.2 (100 + p2))), (3, .ref (G.2 (100 + p3))), (4, .ref (G.2 (100 + p4)))] → W p l e { frames := 5, cells := 0, slots := 0, locals := 108 } s m args below meth c H locs 0 0 Q (F0 m 62 ls [.int z48946]) := by
    intro z48946 F H locs ls rz48946 hT hfr pf0 pf1 pf2 pf3 pf4 pf5 hl
    refine lv_istore (lv' := [(5, .int z48946), (0, .ref p0), (1, .ref (G.2 (100 + p1))), (2, .ref (G.2 (100 + p2))), (3, .ref (G.2 (100 + p3))), (4, .ref (G.2 (100 + p4)))]) hx hb dX3_choice_62 hl (by decide) rfl (fun ls hl => ?_)
    refine lv_iload hx hb dX3_choice_64 (lv_at hl 0 rfl) ?_
    refine lv_iconst (v := (-1)) hx hb dX3_choice_66 (by decide) ?_
    refine lv_icmp_ne (tgt := 82) hx hb dX3_choice_67 (by decide) (fun c48947 => ?_) (fun c48947 => ?_)
    · have w48948 := cv_ne (rfl : z48946.toInt = z48946.toInt) (by decide : ((-1) : Int32).toInt = (-1)) c48947
      exact K82 z48946 _ _ _ _ (by omega) hT hfr pf0 pf1 pf2 pf3 pf4 pf5 (lv_sub hl [1, 2, 3, 4, 5, 0] rfl)
    · have w48949 := cv_eq (rfl : z48946.toInt = z48946.toInt) (by decide : ((-1) : Int32).toInt = (-1)) c48947
      refine lv_aload_n hx hb dX3_choice_70 rfl (lv_at hl 1 rfl) ?_
      refine lv_iconst (v := 1) hx hb dX3_choice_71 (by decide) ?_
      refine lv_aload_n hx hb dX3_choice_72 rfl (lv_at hl 1 rfl) ?_
      refine t_get (C := RX3) (T := TX3) (N := 13) X hT m0 g0 rfl rfl 0 (by decide) qw_73 inlX3 rfl dX3_choice_73 (fun v48950 hv48950 ov48950 => ?_)
      obtain rfl : v48950 = .ref x0 := hv48950.symm.trans pf0
      refine t_get (C := RX8) (T := TX8) (N := 8) X hT mx0 gx0 rfl rfl 4 (by decide) qw_227 inlX8 rfl dX3_choice_76 (fun v48951 hv48951 ov48951 => ?_)
      obtain ⟨z48952, rfl, rz48952⟩ := okV_i ov48951
      refine t_cVv (n := 2) (C := RX3) (T := TX3) (N := 13) (As := [.int 1, .int z48952]) (rest := []) X hT (kt111_X3_fail l G tag L F hT.2.2.2 p0 1 z48952 m0 g0 (by decide)) m0 g0 rfl rfl qw_287 qw_288 qw_289 qw_28 qw_290 ⟨rfl, by decide +kernel, by decide +kernel, by decide +kernel⟩ ⟨Nat.le_of_ble_eq_true rfl, Nat.le_of_ble_eq_true rfl⟩ hl rfl rfl (Nat.le_of_ble_eq_true rfl) dX3_choice_79 ⟨Nat.le_of_ble_eq_true rfl, Nat.le_of_ble_eq_true rfl⟩ (fun F H locs hT hz48953 => ?_)
      obtain ⟨yz48953, xz48953_0⟩ := hz48953
      have pf0 := (yz48953.1 _ 0 (Or.inr (by decide)) (Or.inr (by decide))).trans pf0
      have pf1 := (yz48953.1 _ 1 (Or.inr (by decide)) (Or.inr (by decide))).trans pf1
      have pf2 := (yz48953.1 _ 2 (Or.inr (by decide)) (Or.inr (by decide))).trans pf2
      have pf3 := (yz48953.1 _ 0 (Or.inr (by decide)) (Or.inr (by decide))).trans pf3
      have pf4 := (yz48953.1 _ 10 (Or.inr (by decide)) (Or.inr (by decide))).trans pf4
      have pf5 := (yz48953.1 _ 11 (Or.inr (by decide)) (Or.inr (by decide))).trans pf5
      have hv48951 := (yz48953.1 _ 4 (Or.inr (by decide)) (Or.inl (by rw [gx0]; decide))).trans hv48951
      have hfr : (∀ b j : Nat, (tag b ≠ 24 ∨ j ≠ 2) → (tag b ≠ 24 ∨ j ≠ 3) → (tag b ≠ 24 ∨ j ≠ 4) → (tag b ≠ 24 ∨ j ≠ 5) → (tag b ≠ 24 ∨ j ≠ 6) → (tag b ≠ 24 ∨ j ≠ 7) → (tag b ≠ 25 ∨ j ≠ 3) → (tag b ≠ 25 ∨ j ≠ 4) → fld F b j = fld Fo b j) ∧ EF tag F Fo := ⟨fun b j n24_2 n24_3 n24_4 n24_5 n24_6 n24_7 n25_3 n25_4 => (yz48953.1 b j n25_3 n25_4).trans (hfr.1 b j n24_2 n24_3 n24_4 n24_5 n24_6 n24_7 n25_3 n25_4), fun b j hb => (yz48953.2 b j hb).trans (hfr.2 b j hb)⟩
      obtain ⟨z48954, qz48954, rz48954⟩ := xz48953_0
      exact K82 z48946 _ _ _ _ (by omega) hT hfr pf0 pf1 pf2 pf3 pf4 pf5 (lv_sub hl [1, 2, 3, 4, 5, 0] rfl)
  refine lv_aload_n hx hb dX3_choice_0 rfl (lv_at hl 0 rfl) ?_
  refine t_get (C := RX3) (T := TX3) (N := 13) X hT m0 g0 rfl rfl 0 (by decide) qw_73 inlX3 rfl dX3_choice_1 (fun v48955 hv48955 ov48955 => ?_)
  obtain rfl : v48955 = .ref x0 := hv48955.symm.trans pf0
  refine lv_aload_n hx hb dX3_choice_4 rfl (lv_at hl 1 rfl) ?_
  refine t_cVi (n := 1) (C := RX8) (T := TX8) (N := 8) (As := [.ref (G.2 (100 + p1))]) (rest := []) X hT (kt107_X8_isWord l G tag L F hT.2.2.2 x0 p1 x3 mx0 gx0 h1 mx3 gx3 pf3) mx0 gx0 rfl rfl qw_234 qw_235 qw_236 qw_72 qw_237 ⟨rfl, by decide +kernel, by decide +kernel, by decide +kernel⟩ ⟨Nat.le_of_ble_eq_true rfl, Nat.le_of_ble_eq_true rfl⟩ hl rfl rfl (Nat.le_of_ble_eq_true rfl) dX3_choice_5 ⟨Nat.le_of_ble_eq_true rfl, Nat.le_of_ble_eq_true rfl⟩ (fun z48956 F9 H locs hT hz48956 => ?_)
  obtain ⟨fz48956, hz48956⟩ := hz48956
  rw [fz48956] at hT
  refine lv_if_eq (tgt := 15) hx hb dX3_choice_8 (by decide) (fun c48957 => ?_) (fun c48957 => ?_)
  · have w48958 := cv_eq (rfl : z48956.toInt = z48956.toInt) (by decide : (0 : Int32).toInt = 0) c48957
    refine lv_aload_n hx hb dX3_choice_15 rfl (lv_at hl 0 rfl) ?_
    refine t_get (C := RX3) (T := TX3) (N := 13) X hT m0 g0 rfl rfl 0 (by decide) qw_73 inlX3 rfl dX3_choice_16 (fun v48959 hv48959 ov48959 => ?_)
    obtain rfl : v48959 = .ref x0 := hv48959.symm.trans pf0
    refine lv_aload_n hx hb dX3_choice_19 rfl (lv_at hl 2 rfl) ?_
    refine t_cVi (n := 1) (C := RX8) (T := TX8) (N := 8) (As := [.ref (G.2 (100 + p2))]) (rest := []) X hT (kt107_X8_isWord l G tag L F hT.2.2.2 x0 p2 x3 mx0 gx0 h2 mx3 gx3 pf3) mx0 gx0 rfl rfl qw_234 qw_235 qw_236 qw_72 qw_237 ⟨rfl, by decide +kernel, by decide +kernel, by decide +kernel⟩ ⟨Nat.le_of_ble_eq_true rfl, Nat.le_of_ble_eq_true rfl⟩ hl rfl rfl (Nat.le_of_ble_eq_true rfl) dX3_choice_20 ⟨Nat.le_of_ble_eq_true rfl, Nat.le_of_ble_eq_true rfl⟩ (fun z48960 F9 H locs hT hz48960 => ?_)
    obtain ⟨fz48960, hz48960⟩ := hz48960
    rw [fz48960] at hT
    refine lv_if_eq (tgt := 30) hx hb dX3_choice_23 (by decide) (fun c48961 => ?_) (fun c48961 => ?_)
    · have w48962 := cv_eq (rfl : z48960.toInt = z48960.toInt) (by decide : (0 : Int32).toInt = 0) c48961
      refine lv_aload_n hx hb dX3_choice_30 rfl (lv_at hl 0 rfl) ?_
      refine t_get (C := RX3) (T := TX3) (N := 13) X hT m0 g0 rfl rfl 0 (by decide) qw_73 inlX3 rfl dX3_choice_31 (fun v48963 hv48963 ov48963 => ?_)
      obtain rfl : v48963 = .ref x0 := hv48963.symm.trans pf0
      refine lv_aload_n hx hb dX3_choice_34 rfl (lv_at hl 3 rfl) ?_
      refine t_cVi (n := 1) (C := RX8) (T := TX8) (N := 8) (As := [.ref (G.2 (100 + p3))]) (rest := []) X hT (kt107_X8_isWord l G tag L F hT.2.2.2 x0 p3 x3 mx0 gx0 h3 mx3 gx3 pf3) mx0 gx0 rfl rfl qw_234 qw_235 qw_236 qw_72 qw_237 ⟨rfl, by decide +kernel, by decide +kernel, by decide +kernel⟩ ⟨Nat.le_of_ble_eq_true rfl, Nat.le_of_ble_eq_true rfl⟩ hl rfl rfl (Nat.le_of_ble_eq_true rfl) dX3_choice_35 ⟨Nat.le_of_ble_eq_true rfl, Nat.le_of_ble_eq_true rfl⟩ (fun z48964 F9 H locs hT hz48964 => ?_)
      obtain ⟨fz48964, hz48964⟩ := hz48964
      rw [fz48964] at hT
      refine lv_if_eq (tgt := 45) hx hb dX3_choice_38 (by decide) (fun c48965 => ?_) (fun c48965 => ?_)
      · have w48966 := cv_eq (rfl : z48964.toInt = z48964.toInt) (by decide : (0 : Int32).toInt = 0) c48965
        refine lv_aload_n hx hb dX3_choice_45 rfl (lv_at hl 0 rfl) ?_
        refine t_get (C := RX3) (T := TX3) (N := 13) X hT m0 g0 rfl rfl 0 (by decide) qw_73 inlX3 rfl dX3_choice_46 (fun v48967 hv48967 ov48967 => ?_)
        obtain rfl : v48967 = .ref x0 := hv48967.symm.trans pf0
        refine lv_aload hx hb dX3_choice_49 (lv_at hl 4 rfl) ?_
        refine t_cVi (n := 1) (C := RX8) (T := TX8) (N := 8) (As := [.ref (G.2 (100 + p4))]) (rest := []) X hT (kt107_X8_isWord l G tag L F hT.2.2.2 x0 p4 x3 mx0 gx0 h4 mx3 gx3 pf3) mx0 gx0 rfl rfl qw_234 qw_235 qw_236 qw_72 qw_237 ⟨rfl, by decide +kernel, by decide +kernel, by decide +kernel⟩ ⟨Nat.le_of_ble_eq_true rfl, Nat.le_of_ble_eq_true rfl⟩ hl rfl rfl (Nat.le_of_ble_eq_true rfl) dX3_choice_51 ⟨Nat.le_of_ble_eq_true rfl, Nat.le_of_ble_eq_true rfl⟩ (fun z48968 F9 H locs hT hz48968 => ?_)
        obtain ⟨fz48968, hz48968⟩ := hz48968
        rw [fz48968] at hT
        refine lv_if_eq (tgt := 61) hx hb dX3_choice_54 (by decide) (fun c48969 => ?_) (fun c48969 => ?_)
        · have w48970 := cv_eq (rfl : z48968.toInt = z48968.toInt) (by decide : (0 : Int32).toInt = 0) c48969
          refine lv_iconst (v := (-1)) hx hb dX3_choice_61 (by decide) ?_
          exact K62 (-1) _ _ _ _ (by decide) hT hfr pf0 pf1 pf2 pf3 pf4 pf5 (lv_sub hl [0, 1, 2, 3, 4] rfl)
        · have w48971 := cv_ne (rfl : z48968.toInt = z48968.toInt) (by decide : (0 : Int32).toInt = 0) c48969
          refine lv_iconst (v := 3) hx hb dX3_choice_57 (by decide) ?_
          refine lv_goto (tgt := 62) hx hb dX3_choice_58 (by decide) ?_
          exact K62 3 _ _ _ _ (by decide) hT hfr pf0 pf1 pf2 pf3 pf4 pf5 (lv_sub hl [0, 1, 2, 3, 4] rfl)
      · have w48972 := cv_ne (rfl : z48964.toInt = z48964.toInt) (by decide : (0 : Int32).toInt = 0) c48965
        refine lv_iconst (v := 2) hx hb dX3_choice_41 (by decide) ?_
        refine lv_goto (tgt := 62) hx hb dX3_choice_42 (by decide) ?_
        exact K62 2 _ _ _ _ (by decide) hT hfr pf0 pf1 pf2 pf3 pf4 pf5 (lv_sub hl [0, 1, 2, 3, 4] rfl)
    · have w48973 := cv_ne (rfl : z48960.toInt = z48960.toInt) (by decide : (0 : Int32).toInt = 0) c48961
      refine lv_iconst (v := 1) hx hb dX3_choice_26 (by decide) ?_
      refine lv_goto (tgt := 62) hx hb dX3_choice_27 (by decide) ?_
      exact K62 1 _ _ _ _ (by decide) hT hfr pf0 pf1 pf2 pf3 pf4 pf5 (lv_sub hl [0, 1, 2, 3, 4] rfl)
  · have w48974 := cv_ne (rfl : z48956.toInt = z48956.toInt) (by decide : (0 : Int32).toInt = 0) c48957
    refine lv_iconst (v := 0) hx hb dX3_choice_11 (by decide) ?_
    refine lv_goto (tgt := 62) hx hb dX3_choice_12 (by decide) ?_
    exact K62 0 _ _ _ _ (by decide) hT hfr pf0 pf1 pf2 pf3 pf4 pf5 (lv_sub hl [0, 1, 2, 3, 4] rfl)
set_option maxHeartbeats 4000000 in
set_option maxRecDepth 100000 in
theorem kt130_X3_readLand (l : Launch) (G : KG) (tag : Nat → Nat) (L : List Nat) (Fo : Nat → va_E) (ho : okT G ttC tag L Fo) (p0 : Nat) (x0 : Nat) (x1 : Nat) (x2 : Nat) (x3 : Nat) (x4 : Nat) (x5 : Nat) (m0 : p0 ∈ L) (g0 : tag p0 = 25) (mx0 : x0 ∈ L) (gx0 : tag x0 = 24) (pf0 : fld Fo p0 0 = .ref x0) (mx1 : x1 ∈ L) (gx1 : tag x1 = 18) (pf1 : fld Fo p0 1 = .ref x1) (mx2 : x2 ∈ L) (gx2 : tag x2 = 19) (pf2 : fld Fo p0 2 = .ref x2) (mx3 : x3 ∈ L) (gx3 : tag x3 = 1) (pf3 : fld Fo x0 0 = .ref x3) (mx4 : x4 ∈ L) (gx4 : tag x4 = 14) (pf4 : fld Fo p0 10 = .ref x4) (mx5 : x5 ∈ L) (gx5 : tag x5 = 15) (pf5 : fld Fo p0 11 = .ref x5) : TMv l yX3_readLand cX3_readLand 1 { frames := 6, cells := 0, slots := 0, locals := 133 } G ttC tag L Fo [.ref p0] (fun F1 => ((∀ b j : Nat, (tag b ≠ 18 ∨ j ≠ 0) → (tag b ≠ 18 ∨ j ≠ 1) → (tag b ≠ 18 ∨ j ≠ 2) → (tag b ≠ 18 ∨ j ≠ 3) → (tag b ≠ 24 ∨ j ≠ 2) → (tag b ≠ 24 ∨ j ≠ 3) → (tag b ≠ 24 ∨ j ≠ 4) → (tag b ≠ 24 ∨ j ≠ 5) → (tag b ≠ 24 ∨ j ≠ 6) → (tag b ≠ 24 ∨ j ≠ 7) → (tag b ≠ 25 ∨ j ≠ 3) → (tag b ≠ 25 ∨ j ≠ 4) → (tag b ≠ 25 ∨ j ≠ 5) → fld F1 b j = fld Fo b j) ∧ EF tag F1 Fo)) := by
  refine t_bodyv (y := yX3_readLand) (cd := cX3_readLand) (mL := 1) (rm := { frames := 6, cells := 0, slots := 0, locals := 133 }) (av := [.ref p0]) (by decide) (Nat.le_of_ble_eq_true rfl) ho ?_
  intro p e s m args below meth c ls A Q hQ X hT hl
  have hx := X.1.1
  have hb := X.1.2.1
  have hl : lv_has ls 1 [(0, .ref p0)] := hl
  obtain ⟨F, hFo⟩ : ∃ F : Nat → va_E, F = Fo := ⟨_, rfl⟩
  rw [← hFo] at hT pf0 pf1 pf2 pf3 pf4 pf5
  have hfr : (∀ b j : Nat, (tag b ≠ 18 ∨ j ≠ 0) → (tag b ≠ 18 ∨ j ≠ 1) → (tag b ≠ 18 ∨ j ≠ 2) → (tag b ≠ 18 ∨ j ≠ 3) → (tag b ≠ 24 ∨ j ≠ 2) → (tag b ≠ 24 ∨ j ≠ 3) → (tag b ≠ 24 ∨ j ≠ 4) → (tag b ≠ 24 ∨ j ≠ 5) → (tag b ≠ 24 ∨ j ≠ 6) → (tag b ≠ 24 ∨ j ≠ 7) → (tag b ≠ 25 ∨ j ≠ 3) → (tag b ≠ 25 ∨ j ≠ 4) → (tag b ≠ 25 ∨ j ≠ 5) → fld F b j = fld Fo b j) ∧ EF tag F Fo := by
    rw [hFo]
    exact ⟨by intros; rfl, fun _ _ _ => rfl⟩
  have K105 : ∀ (z49409 : Int32) (b49410 : Nat) (F : Nat → va_E) (H : Heap) (locs : List Loc) (ls : Array Slot), (0 ≤ z49409.toInt ∧ z49409.toInt ≤ 1) → (b49410 ∈ L) → (tag b49410 = 18) → TH G ttC A s tag L F H locs → ((∀ b j : Nat, (tag b ≠ 18 ∨ j ≠ 0) → (tag b ≠ 18 ∨ j ≠ 1) → (tag b ≠ 18 ∨ j ≠ 2) → (tag b ≠ 18 ∨ j ≠ 3) → (tag b ≠ 24 ∨ j ≠ 2) → (tag b ≠ 24 ∨ j ≠ 3) → (tag b ≠ 24 ∨ j ≠ 4) → (tag b ≠ 24 ∨ j ≠ 5) → (tag b ≠ 24 ∨ j ≠ 6) → (tag b ≠ 24 ∨ j ≠ 7) → (tag b ≠ 25 ∨ j ≠ 3) → (tag b ≠ 25 ∨ j ≠ 4) → (tag b ≠ 25 ∨ j ≠ 5) → fld F b j = fld Fo b j) ∧ EF tag F Fo) → fld F p0 0 = .ref x0 → fld F p0 1 = .ref x1 → fld F p0 2 = .ref x2 → fld F x0 0 = .ref x3 → fld F p0 10 = .ref x4 → fld F p0 11 = .ref x5 → lv_has ls 1 [(0, .ref p0)] → W p l e { frames := 6, cells := 0, slots := 0, locals := 133 } s m args below meth c H locs 0 0 Q (F0 m 105 ls [.int z49409, .ref b49410]) := by
    intro z49409 b49410 F H locs ls rz49409 mb49410 gb49410 hT hfr pf0 pf1 pf2 pf3 pf4 pf5 hl
    refine t_put (C := RX1) (T := TX1) (N := 20) (v := .int z49409) X hT mb49410 gb49410 rfl tyX1 tyX1_ok nmX1 rfl 3 (by decide) qw_313 inlX1 rfl (nar_z (by omega)) (fit_z (by omega)) rfl (⟨_, rfl, (show 0 ≤ (z49409 : Int32).toInt from (by omega)), (show (z49409 : Int32).toInt ≤ 1 from (by omega))⟩) dX3_readLand_105 (fun F H locs hT v49411 h1v49411 h2v49411 => ?_)
    have pf0 := (h1v49411 _ _ (Or.inr (by decide))).trans pf0
    have pf1 := (h1v49411 _ _ (Or.inr (by decide))).trans pf1
    have pf2 := (h1v49411 _ _ (Or.inr (by decide))).trans pf2
    have pf3 := (h1v49411 _ _ (Or.inr (by decide))).trans pf3
    have pf4 := (h1v49411 _ _ (Or.inr (by decide))).trans pf4
    have pf5 := (h1v49411 _ _ (Or.inr (by decide))).trans pf5
    have hfr : (∀ b j : Nat, (tag b ≠ 18 ∨ j ≠ 0) → (tag b ≠ 18 ∨ j ≠ 1) → (tag b ≠ 18 ∨ j ≠ 2) → (tag b ≠ 18 ∨ j ≠ 3) → (tag b ≠ 24 ∨ j ≠ 2) → (tag b ≠ 24 ∨ j ≠ 3) → (tag b ≠ 24 ∨ j ≠ 4) → (tag b ≠ 24 ∨ j ≠ 5) → (tag b ≠ 24 ∨ j ≠ 6) → (tag b ≠ 24 ∨ j ≠ 7) → (tag b ≠ 25 ∨ j ≠ 3) → (tag b ≠ 25 ∨ j ≠ 4) → (tag b ≠ 25 ∨ j ≠ 5) → fld F b j = fld Fo b j) ∧ EF tag F Fo := ⟨fun b j n18_0 n18_1 n18_2 n18_3 n24_2 n24_3 n24_4 n24_5 n24_6 n24_7 n25_3 n25_4 n25_5 => (h1v49411 b j (fr_ne gb49410 n18_3)).trans (hfr.1 b j n18_0 n18_1 n18_2 n18_3 n24_2 n24_3 n24_4 n24_5 n24_6 n24_7 n25_3 n25_4 n25_5), fun b j hb => (h2v49411 b j).trans (hfr.2 b j hb)⟩
    refine lv_aload_n hx hb dX3_readLand_108 rfl (lv_at hl 0 rfl) ?_
    refine lv_iconst (v := 1) hx hb dX3_readLand_109 (by decide) ?_
    refine t_put (C := RX3) (T := TX3) (N := 13) (v := .int 1) X hT m0 g0 rfl tyX3 tyX3_ok nmX3 rfl 5 (by decide) qw_165 inlX3 rfl (by first | rfl | decide) (by first | rfl | decide) rfl (⟨_, rfl, (show 0 ≤ (1 : Int32).toInt from (by decide)), (show (1 : Int32).toInt ≤ 1 from (by decide))⟩) dX3_readLand_110 (fun F H locs hT v49412 h1v49412 h2v49412 => ?_)
    have pf0 := (h1v49412 _ _ (Or.inr (by decide))).trans pf0
    have pf1 := (h1v49412 _ _ (Or.inr (by decide))).trans pf1
    have pf2 := (h1v49412 _ _ (Or.inr (by decide))).trans pf2
    have pf3 := (h1v49412 _ _ (Or.inr (by decide))).trans pf3
    have pf4 := (h1v49412 _ _ (Or.inr (by decide))).trans pf4
    have pf5 := (h1v49412 _ _ (Or.inr (by decide))).trans pf5
    have v49411 := (h1v49412 _ _ (Or.inr (by decide))).trans v49411
    have hfr : (∀ b j : Nat, (tag b ≠ 18 ∨ j ≠ 0) → (tag b ≠ 18 ∨ j ≠ 1) → (tag b ≠ 18 ∨ j ≠ 2) → (tag b ≠ 18 ∨ j ≠ 3) → (tag b ≠ 24 ∨ j ≠ 2) → (tag b ≠ 24 ∨ j ≠ 3) → (tag b ≠ 24 ∨ j ≠ 4) → (tag b ≠ 24 ∨ j ≠ 5) → (tag b ≠ 24 ∨ j ≠ 6) → (tag b ≠ 24 ∨ j ≠ 7) → (tag b ≠ 25 ∨ j ≠ 3) → (tag b ≠ 25 ∨ j ≠ 4) → (tag b ≠ 25 ∨ j ≠ 5) → fld F b j = fld Fo b j) ∧ EF tag F Fo := ⟨fun b j n18_0 n18_1 n18_2 n18_3 n24_2 n24_3 n24_4 n24_5 n24_6 n24_7 n25_3 n25_4 n25_5 => (h1v49412 b j (fr_ne g0 n25_5)).trans (hfr.1 b j n18_0 n18_1 n18_2 n18_3 n24_2 n24_3 n24_4 n24_5 n24_6 n24_7 n25_3 n25_4 n25_5), fun b j hb => (h2v49412 b j).trans (hfr.2 b j hb)⟩
    exact t_vret hQ X hT hfr (Nat.le_of_ble_eq_true rfl) (Nat.le_of_ble_eq_true rfl) dX3_readLand_113
  have K71 : ∀ (z49413 : Int32) (b49414 : Nat) (F : Nat → va_E) (H : Heap) (locs : List Loc) (ls : Array Slot), (0 ≤ z49413.toInt ∧ z49413.toInt ≤ 1) → (b49414 ∈ L) → (tag b49414 = 18) → TH G ttC A s tag L F H locs → ((∀ b j : Nat, (tag b ≠ 18 ∨ j ≠ 0) → (tag b ≠ 18 ∨ j ≠ 1) → (tag b ≠ 18 ∨ j ≠ 2) → (tag b ≠ 18 ∨ j ≠ 3) → (tag b ≠ 24 ∨ j ≠ 2) → (tag b ≠ 24 ∨ j ≠ 3) → (tag b ≠ 24 ∨ j ≠ 4) → (tag b ≠ 24 ∨ j ≠ 5) → (tag b ≠ 24 ∨ j ≠ 6) → (tag b ≠ 24 ∨ j ≠ 7) → (tag b ≠ 25 ∨ j ≠ 3) → (tag b ≠ 25 ∨ j ≠ 4) → (tag b ≠ 25 ∨ j ≠ 5) → fld F b j = fld Fo b j) ∧ EF tag F Fo) → fld F p0 0 = .ref x0 → fld F p0 1 = .ref x1 → fld F p0 2 = .ref x2 → fld F x0 0 = .ref x3 → fld F p0 10 = .ref x4 → fld F p0 11 = .ref x5 → lv_has ls 1 [(0, .ref p0)] → W p l e { frames := 6, cells := 0, slots := 0, locals := 133 } s m args below meth c H locs 0 0 Q (F0 m 71 ls [.int z49413, .ref b49414]) := by
    intro z49413 b49414 F H locs ls rz49413 mb49414 gb49414 hT hfr pf0 pf1 pf2 pf3 pf4 pf5 hl
    refine t_put (C := RX1) (T := TX1) (N := 20) (v := .int z49413) X hT mb49414 gb49414 rfl tyX1 tyX1_ok nmX1 rfl 2 (by decide) qw_312 inlX1 rfl (nar_z (by omega)) (fit_z (by omega)) rfl (⟨_, rfl, (show 0 ≤ (z49413 : Int32).toInt from (by omega)), (show (z49413 : Int32).toInt ≤ 1 from (by omega))⟩) dX3_readLand_71 (fun F H locs hT v49415 h1v49415 h2v49415 => ?_)
    have pf0 := (h1v49415 _ _ (Or.inr (by decide))).trans pf0
    have pf1 := (h1v49415 _ _ (Or.inr (by decide))).trans pf1
    have pf2 := (h1v49415 _ _ (Or.inl (tne g0 gb49414 (by decide)))).trans pf2
    have pf3 := (h1v49415 _ _ (Or.inr (by decide))).trans pf3
    have pf4 := (h1v49415 _ _ (Or.inr (by decide))).trans pf4
    have pf5 := (h1v49415 _ _ (Or.inr (by decide))).trans pf5
    have hfr : (∀ b j : Nat, (tag b ≠ 18 ∨ j ≠ 0) → (tag b ≠ 18 ∨ j ≠ 1) → (tag b ≠ 18 ∨ j ≠ 2) → (tag b ≠ 18 ∨ j ≠ 3) → (tag b ≠ 24 ∨ j ≠ 2) → (tag b ≠ 24 ∨ j ≠ 3) → (tag b ≠ 24 ∨ j ≠ 4) → (tag b ≠ 24 ∨ j ≠ 5) → (tag b ≠ 24 ∨ j ≠ 6) → (tag b ≠ 24 ∨ j ≠ 7) → (tag b ≠ 25 ∨ j ≠ 3) → (tag b ≠ 25 ∨ j ≠ 4) → (tag b ≠ 25 ∨ j ≠ 5) → fld F b j = fld Fo b j) ∧ EF tag F Fo := ⟨fun b j n18_0 n18_1 n18_2 n18_3 n24_2 n24_3 n24_4 n24_5 n24_6 n24_7 n25_3 n25_4 n25_5 => (h1v49415 b j (fr_ne gb49414 n18_2)).trans (hfr.1 b j n18_0 n18_1 n18_2 n18_3 n24_2 n24_3 n24_4 n24_5 n24_6 n24_7 n25_3 n25_4 n25_5), fun b j hb => (h2v49415 b j).trans (hfr.2 b j hb)⟩
    refine lv_aload_n hx hb dX3_readLand_74 rfl (lv_at hl 0 rfl) ?_
    refine m_ldcK X 17 rfl dX3_readLand_75 ?_
    refine t_cVv (n := 1) (C := RX3) (T := TX3) (N := 13) (As := [.ref (G.2 (100 + 17))]) (rest := []) X hT (kt115_X3_word l G tag L F hT.2.2.2 p0 17 x0 x1 x2 x3 x4 x5 m0 g0 (by decide) mx0 gx0 pf0 mx1 gx1 pf1 mx2 gx2 pf2 mx3 gx3 pf3 mx4 gx4 pf4 mx5 gx5 pf5) m0 g0 rfl rfl qw_314 qw_315 qw_316 qw_28 qw_317 ⟨rfl, by decide +kernel, by decide +kernel, by decide +kernel⟩ ⟨Nat.le_of_ble_eq_true rfl, Nat.le_of_ble_eq_true rfl⟩ hl rfl rfl (Nat.le_of_ble_eq_true rfl) dX3_readLand_77 ⟨Nat.le_of_ble_eq_true rfl, Nat.le_of_ble_eq_true rfl⟩ (fun F H locs hT hz49416 => ?_)
    have yz49416 := hz49416
    have pf0 := (yz49416.1 _ 0 (Or.inr (by decide)) (Or.inr (by decide)) (Or.inr (by decide)) (Or.inr (by decide)) (Or.inr (by decide)) (Or.inr (by decide)) (Or.inr (by decide)) (Or.inr (by decide))).trans pf0
    have pf1 := (yz49416.1 _ 1 (Or.inr (by decide)) (Or.inr (by decide)) (Or.inr (by decide)) (Or.inr (by decide)) (Or.inr (by decide)) (Or.inr (by decide)) (Or.inr (by decide)) (Or.inr (by decide))).trans pf1
    have pf2 := (yz49416.1 _ 2 (Or.inl (by rw [g0]; decide)) (Or.inr (by decide)) (Or.inr (by decide)) (Or.inr (by decide)) (Or.inr (by decide)) (Or.inr (by decide)) (Or.inr (by decide)) (Or.inr (by decide))).trans pf2
    have pf3 := (yz49416.1 _ 0 (Or.inr (by decide)) (Or.inr (by decide)) (Or.inr (by decide)) (Or.inr (by decide)) (Or.inr (by decide)) (Or.inr (by decide)) (Or.inr (by decide)) (Or.inr (by decide))).trans pf3
    have pf4 := (yz49416.1 _ 10 (Or.inr (by decide)) (Or.inr (by decide)) (Or.inr (by decide)) (Or.inr (by decide)) (Or.inr (by decide)) (Or.inr (by decide)) (Or.inr (by decide)) (Or.inr (by decide))).trans pf4
    have pf5 := (yz49416.1 _ 11 (Or.inr (by decide)) (Or.inr (by decide)) (Or.inr (by decide)) (Or.inr (by decide)) (Or.inr (by decide)) (Or.inr (by decide)) (Or.inr (by decide)) (Or.inr (by decide))).trans pf5
    have v49415 := (yz49416.1 _ 2 (Or.inl (by rw [gb49414]; decide)) (Or.inr (by decide)) (Or.inr (by decide)) (Or.inr (by decide)) (Or.inr (by decide)) (Or.inr (by decide)) (Or.inr (by decide)) (Or.inr (by decide))).trans v49415
    have hfr : (∀ b j : Nat, (tag b ≠ 18 ∨ j ≠ 0) → (tag b ≠ 18 ∨ j ≠ 1) → (tag b ≠ 18 ∨ j ≠ 2) → (tag b ≠ 18 ∨ j ≠ 3) → (tag b ≠ 24 ∨ j ≠ 2) → (tag b ≠ 24 ∨ j ≠ 3) → (tag b ≠ 24 ∨ j ≠ 4) → (tag b ≠ 24 ∨ j ≠ 5) → (tag b ≠ 24 ∨ j ≠ 6) → (tag b ≠ 24 ∨ j ≠ 7) → (tag b ≠ 25 ∨ j ≠ 3) → (tag b ≠ 25 ∨ j ≠ 4) → (tag b ≠ 25 ∨ j ≠ 5) → fld F b j = fld Fo b j) ∧ EF tag F Fo := ⟨fun b j n18_0 n18_1 n18_2 n18_3 n24_2 n24_3 n24_4 n24_5 n24_6 n24_7 n25_3 n25_4 n25_5 => (yz49416.1 b j n24_2 n24_3 n24_4 n24_5 n24_6 n24_7 n25_3 n25_4).trans (hfr.1 b j n18_0 n18_1 n18_2 n18_3 n24_2 n24_3 n24_4 n24_5 n24_6 n24_7 n25_3 n25_4 n25_5), fun b j hb => (yz49416.2 b j hb).trans (hfr.2 b j hb)⟩
    refine lv_aload_n hx hb dX3_readLand_80 rfl (lv_at hl 0 rfl) ?_
    refine t_get (C := RX3) (T := TX3) (N := 13) X hT m0 g0 rfl rfl 1 (by decide) qw_161 inlX3 rfl dX3_readLand_81 (fun v49417 hv49417 ov49417 => ?_)
    obtain rfl : v49417 = .ref x1 := hv49417.symm.trans pf1
    refine lv_aload_n hx hb dX3_readLand_84 rfl (lv_at hl 0 rfl) ?_
    refine m_ldcK X 18 rfl dX3_readLand_85 ?_
    refine m_ldcK X 19 rfl dX3_readLand_87 ?_
    refine m_ldcK X 16 rfl dX3_readLand_89 ?_
    refine m_ldcK X 16 rfl dX3_readLand_91 ?_
    refine t_cVi (n := 4) (C := RX3) (T := TX3) (N := 13) (As := [.ref (G.2 (100 + 18)), .ref (G.2 (100 + 19)), .ref (G.2 (100 + 16)), .ref (G.2 (100 + 16))]) (rest := [.ref x1]) X hT (kt129_X3_choice l G tag L F hT.2.2.2 p0 18 19 16 16 x0 x1 x2 x3 x4 x5 m0 g0 (by decide) (by decide) (by decide) (by decide) mx0 gx0 pf0 mx1 gx1 pf1 mx2 gx2 pf2 mx3 gx3 pf3 mx4 gx4 pf4 mx5 gx5 pf5) m0 g0 rfl rfl qw_323 qw_324 qw_325 qw_28 qw_326 ⟨rfl, by decide +kernel, by decide +kernel, by decide +kernel⟩ ⟨Nat.le_of_ble_eq_true rfl, Nat.le_of_ble_eq_true rfl⟩ hl rfl rfl (Nat.le_of_ble_eq_true rfl) dX3_readLand_93 ⟨Nat.le_of_ble_eq_true rfl, Nat.le_of_ble_eq_true rfl⟩ (fun z49418 F H locs hT hz49418 => ?_)
    obtain ⟨hz49418, yz49418⟩ := hz49418
    have pf0 := (yz49418.1 _ 0 (Or.inr (by decide)) (Or.inr (by decide)) (Or.inr (by decide)) (Or.inr (by decide)) (Or.inr (by decide)) (Or.inr (by decide)) (Or.inr (by decide)) (Or.inr (by decide))).trans pf0
    have pf1 := (yz49418.1 _ 1 (Or.inr (by decide)) (Or.inr (by decide)) (Or.inr (by decide)) (Or.inr (by decide)) (Or.inr (by decide)) (Or.inr (by decide)) (Or.inr (by decide)) (Or.inr (by decide))).trans pf1
    have pf2 := (yz49418.1 _ 2 (Or.inl (by rw [g0]; decide)) (Or.inr (by decide)) (Or.inr (by decide)) (Or.inr (by decide)) (Or.inr (by decide)) (Or.inr (by decide)) (Or.inr (by decide)) (Or.inr (by decide))).trans pf2
    have pf3 := (yz49418.1 _ 0 (Or.inr (by decide)) (Or.inr (by decide)) (Or.inr (by decide)) (Or.inr (by decide)) (Or.inr (by decide)) (Or.inr (by decide)) (Or.inr (by decide)) (Or.inr (by decide))).trans pf3
    have pf4 := (yz49418.1 _ 10 (Or.inr (by decide)) (Or.inr (by decide)) (Or.inr (by decide)) (Or.inr (by decide)) (Or.inr (by decide)) (Or.inr (by decide)) (Or.inr (by decide)) (Or.inr (by decide))).trans pf4
    have pf5 := (yz49418.1 _ 11 (Or.inr (by decide)) (Or.inr (by decide)) (Or.inr (by decide)) (Or.inr (by decide)) (Or.inr (by decide)) (Or.inr (by decide)) (Or.inr (by decide)) (Or.inr (by decide))).trans pf5
    have v49415 := (yz49418.1 _ 2 (Or.inl (by rw [gb49414]; decide)) (Or.inr (by decide)) (Or.inr (by decide)) (Or.inr (by decide)) (Or.inr (by decide)) (Or.inr (by decide)) (Or.inr (by decide)) (Or.inr (by decide))).trans v49415
    have hfr : (∀ b j : Nat, (tag b ≠ 18 ∨ j ≠ 0) → (tag b ≠ 18 ∨ j ≠ 1) → (tag b ≠ 18 ∨ j ≠ 2) → (tag b ≠ 18 ∨ j ≠ 3) → (tag b ≠ 24 ∨ j ≠ 2) → (tag b ≠ 24 ∨ j ≠ 3) → (tag b ≠ 24 ∨ j ≠ 4) → (tag b ≠ 24 ∨ j ≠ 5) → (tag b ≠ 24 ∨ j ≠ 6) → (tag b ≠ 24 ∨ j ≠ 7) → (tag b ≠ 25 ∨ j ≠ 3) → (tag b ≠ 25 ∨ j ≠ 4) → (tag b ≠ 25 ∨ j ≠ 5) → fld F b j = fld Fo b j) ∧ EF tag F Fo := ⟨fun b j n18_0 n18_1 n18_2 n18_3 n24_2 n24_3 n24_4 n24_5 n24_6 n24_7 n25_3 n25_4 n25_5 => (yz49418.1 b j n24_2 n24_3 n24_4 n24_5 n24_6 n24_7 n25_3 n25_4).trans (hfr.1 b j n18_0 n18_1 n18_2 n18_3 n24_2 n24_3 n24_4 n24_5 n24_6 n24_7 n25_3 n25_4 n25_5), fun b j hb => (yz49418.2 b j hb).trans (hfr.2 b j hb)⟩
    refine lv_iconst (v := 1) hx hb dX3_readLand_96 (by decide) ?_
    refine lv_icmp_ne (tgt := 104) hx hb dX3_readLand_97 (by decide) (fun c49419 => ?_) (fun c49419 => ?_)
    · have w49420 := cv_ne (rfl : z49418.toInt = z49418.toInt) (by decide : (1 : Int32).toInt = 1) c49419
      refine lv_iconst (v := 0) hx hb dX3_readLand_104 (by decide) ?_
      exact K105 0 x1 _ _ _ _ (by decide) mx1 gx1 hT hfr pf0 pf1 pf2 pf3 pf4 pf5 (lv_sub hl [0] rfl)
    · have w49421 := cv_eq (rfl : z49418.toInt = z49418.toInt) (by decide : (1 : Int32).toInt = 1) c49419
      refine lv_iconst (v := 1) hx hb dX3_readLand_100 (by decide) ?_
      refine lv_goto (tgt := 105) hx hb dX3_readLand_101 (by decide) ?_
      exact K105 1 x1 _ _ _ _ (by decide) mx1 gx1 hT hfr pf0 pf1 pf2 pf3 pf4 pf5 (lv_sub hl [0] rfl)
  refine lv_aload_n hx hb dX3_readLand_0 rfl (lv_at hl 0 rfl) ?_
  refine m_ldcK X 11 rfl dX3_readLand_1 ?_
  refine t_cVv (n := 1) (C := RX3) (T := TX3) (N := 13) (As := [.ref (G.2 (100 + 11))]) (rest := []) X hT (kt115_X3_word l G tag L F hT.2.2.2 p0 11 x0 x1 x2 x3 x4 x5 m0 g0 (by decide) mx0 gx0 pf0 mx1 gx1 pf1 mx2 gx2 pf2 mx3 gx3 pf3 mx4 gx4 pf4 mx5 gx5 pf5) m0 g0 rfl rfl qw_314 qw_315 qw_316 qw_28 qw_317 ⟨rfl, by decide +kernel, by decide +kernel, by decide +kernel⟩ ⟨Nat.le_of_ble_eq_true rfl, Nat.le_of_ble_eq_true rfl⟩ hl rfl rfl (Nat.le_of_ble_eq_true rfl) dX3_readLand_3 ⟨Nat.le_of_ble_eq_true rfl, Nat.le_of_ble_eq_true rfl⟩ (fun F H locs hT hz49422 => ?_)
  have yz49422 := hz49422
  have pf0 := (yz49422.1 _ 0 (Or.inr (by decide)) (Or.inr (by decide)) (Or.inr (by decide)) (Or.inr (by decide)) (Or.inr (by decide)) (Or.inr (by decide)) (Or.inr (by decide)) (Or.inr (by decide))).trans pf0
  have pf1 := (yz49422.1 _ 1 (Or.inr (by decide)) (Or.inr (by decide)) (Or.inr (by decide)) (Or.inr (by decide)) (Or.inr (by decide)) (Or.inr (by decide)) (Or.inr (by decide)) (Or.inr (by decide))).trans pf1
  have pf2 := (yz49422.1 _ 2 (Or.inl (by rw [g0]; decide)) (Or.inr (by decide)) (Or.inr (by decide)) (Or.inr (by decide)) (Or.inr (by decide)) (Or.inr (by decide)) (Or.inr (by decide)) (Or.inr (by decide))).trans pf2
  have pf3 := (yz49422.1 _ 0 (Or.inr (by decide)) (Or.inr (by decide)) (Or.inr (by decide)) (Or.inr (by decide)) (Or.inr (by decide)) (Or.inr (by decide)) (Or.inr (by decide)) (Or.inr (by decide))).trans pf3
  have pf4 := (yz49422.1 _ 10 (Or.inr (by decide)) (Or.inr (by decide)) (Or.inr (by decide)) (Or.inr (by decide)) (Or.inr (by decide)) (Or.inr (by decide)) (Or.inr (by decide)) (Or.inr (by decide))).trans pf4
  have pf5 := (yz49422.1 _ 11 (Or.inr (by decide)) (Or.inr (by decide)) (Or.inr (by decide)) (Or.inr (by decide)) (Or.inr (by decide)) (Or.inr (by decide)) (Or.inr (by decide)) (Or.inr (by decide))).trans pf5
  have hfr : (∀ b j : Nat, (tag b ≠ 18 ∨ j ≠ 0) → (tag b ≠ 18 ∨ j ≠ 1) → (tag b ≠ 18 ∨ j ≠ 2) → (tag b ≠ 18 ∨ j ≠ 3) → (tag b ≠ 24 ∨ j ≠ 2) → (tag b ≠ 24 ∨ j ≠ 3) → (tag b ≠ 24 ∨ j ≠ 4) → (tag b ≠ 24 ∨ j ≠ 5) → (tag b ≠ 24 ∨ j ≠ 6) → (tag b ≠ 24 ∨ j ≠ 7) → (tag b ≠ 25 ∨ j ≠ 3) → (tag b ≠ 25 ∨ j ≠ 4) → (tag b ≠ 25 ∨ j ≠ 5) → fld F b j = fld Fo b j) ∧ EF tag F Fo := ⟨fun b j n18_0 n18_1 n18_2 n18_3 n24_2 n24_3 n24_4 n24_5 n24_6 n24_7 n25_3 n25_4 n25_5 => (yz49422.1 b j n24_2 n24_3 n24_4 n24_5 n24_6 n24_7 n25_3 n25_4).trans (hfr.1 b j n18_0 n18_1 n18_2 n18_3 n24_2 n24_3 n24_4 n24_5 n24_6 n24_7 n25_3 n25_4 n25_5), fun b j hb => (yz49422.2 b j hb).trans (hfr.2 b j hb)⟩
  refine lv_aload_n hx hb dX3_readLand_6 rfl (lv_at hl 0 rfl) ?_
  refine t_get (C := RX3) (T := TX3) (N := 13) X hT m0 g0 rfl rfl 1 (by decide) qw_161 inlX3 rfl dX3_readLand_7 (fun v49423 hv49423 ov49423 => ?_)
  obtain rfl : v49423 = .ref x1 := hv49423.symm.trans pf1
  refine lv_aload_n hx hb dX3_readLand_10 rfl (lv_at hl 0 rfl) ?_
  refine lv_iconst (v := 3) hx hb dX3_readLand_11 (by decide) ?_
  refine lv_bipush (v := 12) hx hb dX3_readLand_12 (by decide) ?_
  refine t_cVi (n := 2) (C := RX3) (T := TX3) (N := 13) (As := [.int 3, .int 12]) (rest := [.ref x1]) X hT (kt128_X3_whole l G tag L F hT.2.2.2 p0 3 12 x0 x1 x2 x3 x4 x5 m0 g0 (by decide) (by decide) mx0 gx0 pf0 mx1 gx1 pf1 mx2 gx2 pf2 mx3 gx3 pf3 mx4 gx4 pf4 mx5 gx5 pf5) m0 g0 rfl rfl qw_318 qw_319 qw_320 qw_28 qw_321 ⟨rfl, by decide +kernel, by decide +kernel, by decide +kernel⟩ ⟨Nat.le_of_ble_eq_true rfl, Nat.le_of_ble_eq_true rfl⟩ hl rfl rfl (Nat.le_of_ble_eq_true rfl) dX3_readLand_14 ⟨Nat.le_of_ble_eq_true rfl, Nat.le_of_ble_eq_true rfl⟩ (fun z49424 F H locs hT hz49424 => ?_)
  obtain ⟨hz49424, yz49424⟩ := hz49424
  have pf0 := (yz49424.1 _ 0 (Or.inr (by decide)) (Or.inr (by decide)) (Or.inr (by decide)) (Or.inr (by decide)) (Or.inr (by decide)) (Or.inr (by decide)) (Or.inr (by decide)) (Or.inr (by decide))).trans pf0
  have pf1 := (yz49424.1 _ 1 (Or.inr (by decide)) (Or.inr (by decide)) (Or.inr (by decide)) (Or.inr (by decide)) (Or.inr (by decide)) (Or.inr (by decide)) (Or.inr (by decide)) (Or.inr (by decide))).trans pf1
  have pf2 := (yz49424.1 _ 2 (Or.inl (by rw [g0]; decide)) (Or.inr (by decide)) (Or.inr (by decide)) (Or.inr (by decide)) (Or.inr (by decide)) (Or.inr (by decide)) (Or.inr (by decide)) (Or.inr (by decide))).trans pf2
  have pf3 := (yz49424.1 _ 0 (Or.inr (by decide)) (Or.inr (by decide)) (Or.inr (by decide)) (Or.inr (by decide)) (Or.inr (by decide)) (Or.inr (by decide)) (Or.inr (by decide)) (Or.inr (by decide))).trans pf3
  have pf4 := (yz49424.1 _ 10 (Or.inr (by decide)) (Or.inr (by decide)) (Or.inr (by decide)) (Or.inr (by decide)) (Or.inr (by decide)) (Or.inr (by decide)) (Or.inr (by decide)) (Or.inr (by decide))).trans pf4
  have pf5 := (yz49424.1 _ 11 (Or.inr (by decide)) (Or.inr (by decide)) (Or.inr (by decide)) (Or.inr (by decide)) (Or.inr (by decide)) (Or.inr (by decide)) (Or.inr (by decide)) (Or.inr (by decide))).trans pf5
  have hfr : (∀ b j : Nat, (tag b ≠ 18 ∨ j ≠ 0) → (tag b ≠ 18 ∨ j ≠ 1) → (tag b ≠ 18 ∨ j ≠ 2) → (tag b ≠ 18 ∨ j ≠ 3) → (tag b ≠ 24 ∨ j ≠ 2) → (tag b ≠ 24 ∨ j ≠ 3) → (tag b ≠ 24 ∨ j ≠ 4) → (tag b ≠ 24 ∨ j ≠ 5) → (tag b ≠ 24 ∨ j ≠ 6) → (tag b ≠ 24 ∨ j ≠ 7) → (tag b ≠ 25 ∨ j ≠ 3) → (tag b ≠ 25 ∨ j ≠ 4) → (tag b ≠ 25 ∨ j ≠ 5) → fld F b j = fld Fo b j) ∧ EF tag F Fo := ⟨fun b j n18_0 n18_1 n18_2 n18_3 n24_2 n24_3 n24_4 n24_5 n24_6 n24_7 n25_3 n25_4 n25_5 => (yz49424.1 b j n24_2 n24_3 n24_4 n24_5 n24_6 n24_7 n25_3 n25_4).trans (hfr.1 b j n18_0 n18_1 n18_2 n18_3 n24_2 n24_3 n24_4 n24_5 n24_6 n24_7 n25_3 n25_4 n25_5), fun b j hb => (yz49424.2 b j hb).trans (hfr.2 b j hb)⟩
  refine t_put (C := RX1) (T := TX1) (N := 20) (v := .int z49424) X hT mx1 gx1 rfl tyX1 tyX1_ok nmX1 rfl 0 (by decide) qw_310 inlX1 rfl (by first | rfl | decide) (by first | rfl | decide) rfl (⟨_, rfl, (show 0 ≤ (z49424 : Int32).toInt from (by omega)), (show (z49424 : Int32).toInt ≤ 12 from (by omega))⟩) dX3_readLand_17 (fun F H locs hT v49425 h1v49425 h2v49425 => ?_)
  have pf0 := (h1v49425 _ _ (Or.inl (tne g0 gx1 (by decide)))).trans pf0
  have pf1 := (h1v49425 _ _ (Or.inr (by decide))).trans pf1
  have pf2 := (h1v49425 _ _ (Or.inr (by decide))).trans pf2
  have pf3 := (h1v49425 _ _ (Or.inl (tne gx0 gx1 (by decide)))).trans pf3
  have pf4 := (h1v49425 _ _ (Or.inr (by decide))).trans pf4
  have pf5 := (h1v49425 _ _ (Or.inr (by decide))).trans pf5
  have hfr : (∀ b j : Nat, (tag b ≠ 18 ∨ j ≠ 0) → (tag b ≠ 18 ∨ j ≠ 1) → (tag b ≠ 18 ∨ j ≠ 2) → (tag b ≠ 18 ∨ j ≠ 3) → (tag b ≠ 24 ∨ j ≠ 2) → (tag b ≠ 24 ∨ j ≠ 3) → (tag b ≠ 24 ∨ j ≠ 4) → (tag b ≠ 24 ∨ j ≠ 5) → (tag b ≠ 24 ∨ j ≠ 6) → (tag b ≠ 24 ∨ j ≠ 7) → (tag b ≠ 25 ∨ j ≠ 3) → (tag b ≠ 25 ∨ j ≠ 4) → (tag b ≠ 25 ∨ j ≠ 5) → fld F b j = fld Fo b j) ∧ EF tag F Fo := ⟨fun b j n18_0 n18_1 n18_2 n18_3 n24_2 n24_3 n24_4 n24_5 n24_6 n24_7 n25_3 n25_4 n25_5 => (h1v49425 b j (fr_ne gx1 n18_0)).trans (hfr.1 b j n18_0 n18_1 n18_2 n18_3 n24_2 n24_3 n24_4 n24_5 n24_6 n24_7 n25_3 n25_4 n25_5), fun b j hb => (h2v49425 b j).trans (hfr.2 b j hb)⟩
  refine lv_aload_n hx hb dX3_readLand_20 rfl (lv_at hl 0 rfl) ?_
  refine m_ldcK X 12 rfl dX3_readLand_21 ?_
  refine t_cVv (n := 1) (C := RX3) (T := TX3) (N := 13) (As := [.ref (G.2 (100 + 12))]) (rest := []) X hT (kt115_X3_word l G tag L F hT.2.2.2 p0 12 x0 x1 x2 x3 x4 x5 m0 g0 (by decide) mx0 gx0 pf0 mx1 gx1 pf1 mx2 gx2 pf2 mx3 gx3 pf3 mx4 gx4 pf4 mx5 gx5 pf5) m0 g0 rfl rfl qw_314 qw_315 qw_316 qw_28 qw_317 ⟨rfl, by decide +kernel, by decide +kernel, by decide +kernel⟩ ⟨Nat.le_of_ble_eq_true rfl, Nat.le_of_ble_eq_true rfl⟩ hl rfl rfl (Nat.le_of_ble_eq_true rfl) dX3_readLand_23 ⟨Nat.le_of_ble_eq_true rfl, Nat.le_of_ble_eq_true rfl⟩ (fun F H locs hT hz49426 => ?_)
  have yz49426 := hz49426
  have pf0 := (yz49426.1 _ 0 (Or.inr (by decide)) (Or.inr (by decide)) (Or.inr (by decide)) (Or.inr (by decide)) (Or.inr (by decide)) (Or.inr (by decide)) (Or.inr (by decide)) (Or.inr (by decide))).trans pf0
  have pf1 := (yz49426.1 _ 1 (Or.inr (by decide)) (Or.inr (by decide)) (Or.inr (by decide)) (Or.inr (by decide)) (Or.inr (by decide)) (Or.inr (by decide)) (Or.inr (by decide)) (Or.inr (by decide))).trans pf1
  have pf2 := (yz49426.1 _ 2 (Or.inl (by rw [g0]; decide)) (Or.inr (by decide)) (Or.inr (by decide)) (Or.inr (by decide)) (Or.inr (by decide)) (Or.inr (by decide)) (Or.inr (by decide)) (Or.inr (by decide))).trans pf2
  have pf3 := (yz49426.1 _ 0 (Or.inr (by decide)) (Or.inr (by decide)) (Or.inr (by decide)) (Or.inr (by decide)) (Or.inr (by decide)) (Or.inr (by decide)) (Or.inr (by decide)) (Or.inr (by decide))).trans pf3
  have pf4 := (yz49426.1 _ 10 (Or.inr (by decide)) (Or.inr (by decide)) (Or.inr (by decide)) (Or.inr (by decide)) (Or.inr (by decide)) (Or.inr (by decide)) (Or.inr (by decide)) (Or.inr (by decide))).trans pf4
  have pf5 := (yz49426.1 _ 11 (Or.inr (by decide)) (Or.inr (by decide)) (Or.inr (by decide)) (Or.inr (by decide)) (Or.inr (by decide)) (Or.inr (by decide)) (Or.inr (by decide)) (Or.inr (by decide))).trans pf5
  have v49425 := (yz49426.1 _ 0 (Or.inr (by decide)) (Or.inr (by decide)) (Or.inr (by decide)) (Or.inr (by decide)) (Or.inr (by decide)) (Or.inr (by decide)) (Or.inr (by decide)) (Or.inr (by decide))).trans v49425
  have hfr : (∀ b j : Nat, (tag b ≠ 18 ∨ j ≠ 0) → (tag b ≠ 18 ∨ j ≠ 1) → (tag b ≠ 18 ∨ j ≠ 2) → (tag b ≠ 18 ∨ j ≠ 3) → (tag b ≠ 24 ∨ j ≠ 2) → (tag b ≠ 24 ∨ j ≠ 3) → (tag b ≠ 24 ∨ j ≠ 4) → (tag b ≠ 24 ∨ j ≠ 5) → (tag b ≠ 24 ∨ j ≠ 6) → (tag b ≠ 24 ∨ j ≠ 7) → (tag b ≠ 25 ∨ j ≠ 3) → (tag b ≠ 25 ∨ j ≠ 4) → (tag b ≠ 25 ∨ j ≠ 5) → fld F b j = fld Fo b j) ∧ EF tag F Fo := ⟨fun b j n18_0 n18_1 n18_2 n18_3 n24_2 n24_3 n24_4 n24_5 n24_6 n24_7 n25_3 n25_4 n25_5 => (yz49426.1 b j n24_2 n24_3 n24_4 n24_5 n24_6 n24_7 n25_3 n25_4).trans (hfr.1 b j n18_0 n18_1 n18_2 n18_3 n24_2 n24_3 n24_4 n24_5 n24_6 n24_7 n25_3 n25_4 n25_5), fun b j hb => (yz49426.2 b j hb).trans (hfr.2 b j hb)⟩
  refine lv_aload_n hx hb dX3_readLand_26 rfl (lv_at hl 0 rfl) ?_
  refine t_get (C := RX3) (T := TX3) (N := 13) X hT m0 g0 rfl rfl 1 (by decide) qw_161 inlX3 rfl dX3_readLand_27 (fun v49427 hv49427 ov49427 => ?_)
  obtain rfl : v49427 = .ref x1 := hv49427.symm.trans pf1
  refine lv_aload_n hx hb dX3_readLand_30 rfl (lv_at hl 0 rfl) ?_
  refine lv_iconst (v := 3) hx hb dX3_readLand_31 (by decide) ?_
  refine lv_bipush (v := 12) hx hb dX3_readLand_32 (by decide) ?_
  refine t_cVi (n := 2) (C := RX3) (T := TX3) (N := 13) (As := [.int 3, .int 12]) (rest := [.ref x1]) X hT (kt128_X3_whole l G tag L F hT.2.2.2 p0 3 12 x0 x1 x2 x3 x4 x5 m0 g0 (by decide) (by decide) mx0 gx0 pf0 mx1 gx1 pf1 mx2 gx2 pf2 mx3 gx3 pf3 mx4 gx4 pf4 mx5 gx5 pf5) m0 g0 rfl rfl qw_318 qw_319 qw_320 qw_28 qw_321 ⟨rfl, by decide +kernel, by decide +kernel, by decide +kernel⟩ ⟨Nat.le_of_ble_eq_true rfl, Nat.le_of_ble_eq_true rfl⟩ hl rfl rfl (Nat.le_of_ble_eq_true rfl) dX3_readLand_34 ⟨Nat.le_of_ble_eq_true rfl, Nat.le_of_ble_eq_true rfl⟩ (fun z49428 F H locs hT hz49428 => ?_)
  obtain ⟨hz49428, yz49428⟩ := hz49428
  have pf0 := (yz49428.1 _ 0 (Or.inr (by decide)) (Or.inr (by decide)) (Or.inr (by decide)) (Or.inr (by decide)) (Or.inr (by decide)) (Or.inr (by decide)) (Or.inr (by decide)) (Or.inr (by decide))).trans pf0
  have pf1 := (yz49428.1 _ 1 (Or.inr (by decide)) (Or.inr (by decide)) (Or.inr (by decide)) (Or.inr (by decide)) (Or.inr (by decide)) (Or.inr (by decide)) (Or.inr (by decide)) (Or.inr (by decide))).trans pf1
  have pf2 := (yz49428.1 _ 2 (Or.inl (by rw [g0]; decide)) (Or.inr (by decide)) (Or.inr (by decide)) (Or.inr (by decide)) (Or.inr (by decide)) (Or.inr (by decide)) (Or.inr (by decide)) (Or.inr (by decide))).trans pf2
  have pf3 := (yz49428.1 _ 0 (Or.inr (by decide)) (Or.inr (by decide)) (Or.inr (by decide)) (Or.inr (by decide)) (Or.inr (by decide)) (Or.inr (by decide)) (Or.inr (by decide)) (Or.inr (by decide))).trans pf3
  have pf4 := (yz49428.1 _ 10 (Or.inr (by decide)) (Or.inr (by decide)) (Or.inr (by decide)) (Or.inr (by decide)) (Or.inr (by decide)) (Or.inr (by decide)) (Or.inr (by decide)) (Or.inr (by decide))).trans pf4
  have pf5 := (yz49428.1 _ 11 (Or.inr (by decide)) (Or.inr (by decide)) (Or.inr (by decide)) (Or.inr (by decide)) (Or.inr (by decide)) (Or.inr (by decide)) (Or.inr (by decide)) (Or.inr (by decide))).trans pf5
  have v49425 := (yz49428.1 _ 0 (Or.inr (by decide)) (Or.inr (by decide)) (Or.inr (by decide)) (Or.inr (by decide)) (Or.inr (by decide)) (Or.inr (by decide)) (Or.inr (by decide)) (Or.inr (by decide))).trans v49425
  have hfr : (∀ b j : Nat, (tag b ≠ 18 ∨ j ≠ 0) → (tag b ≠ 18 ∨ j ≠ 1) → (tag b ≠ 18 ∨ j ≠ 2) → (tag b ≠ 18 ∨ j ≠ 3) → (tag b ≠ 24 ∨ j ≠ 2) → (tag b ≠ 24 ∨ j ≠ 3) → (tag b ≠ 24 ∨ j ≠ 4) → (tag b ≠ 24 ∨ j ≠ 5) → (tag b ≠ 24 ∨ j ≠ 6) → (tag b ≠ 24 ∨ j ≠ 7) → (tag b ≠ 25 ∨ j ≠ 3) → (tag b ≠ 25 ∨ j ≠ 4) → (tag b ≠ 25 ∨ j ≠ 5) → fld F b j = fld Fo b j) ∧ EF tag F Fo := ⟨fun b j n18_0 n18_1 n18_2 n18_3 n24_2 n24_3 n24_4 n24_5 n24_6 n24_7 n25_3 n25_4 n25_5 => (yz49428.1 b j n24_2 n24_3 n24_4 n24_5 n24_6 n24_7 n25_3 n25_4).trans (hfr.1 b j n18_0 n18_1 n18_2 n18_3 n24_2 n24_3 n24_4 n24_5 n24_6 n24_7 n25_3 n25_4 n25_5), fun b j hb => (yz49428.2 b j hb).trans (hfr.2 b j hb)⟩
  refine t_put (C := RX1) (T := TX1) (N := 20) (v := .int z49428) X hT mx1 gx1 rfl tyX1 tyX1_ok nmX1 rfl 1 (by decide) qw_311 inlX1 rfl (by first | rfl | decide) (by first | rfl | decide) rfl (⟨_, rfl, (show 0 ≤ (z49428 : Int32).toInt from (by omega)), (show (z49428 : Int32).toInt ≤ 12 from (by omega))⟩) dX3_readLand_37 (fun F H locs hT v49429 h1v49429 h2v49429 => ?_)
  have pf0 := (h1v49429 _ _ (Or.inr (by decide))).trans pf0
  have pf1 := (h1v49429 _ _ (Or.inl (tne g0 gx1 (by decide)))).trans pf1
  have pf2 := (h1v49429 _ _ (Or.inr (by decide))).trans pf2
  have pf3 := (h1v49429 _ _ (Or.inr (by decide))).trans pf3
  have pf4 := (h1v49429 _ _ (Or.inr (by decide))).trans pf4
  have pf5 := (h1v49429 _ _ (Or.inr (by decide))).trans pf5
  have v49425 := (h1v49429 _ _ (Or.inr (by decide))).trans v49425
  have hfr : (∀ b j : Nat, (tag b ≠ 18 ∨ j ≠ 0) → (tag b ≠ 18 ∨ j ≠ 1) → (tag b ≠ 18 ∨ j ≠ 2) → (tag b ≠ 18 ∨ j ≠ 3) → (tag b ≠ 24 ∨ j ≠ 2) → (tag b ≠ 24 ∨ j ≠ 3) → (tag b ≠ 24 ∨ j ≠ 4) → (tag b ≠ 24 ∨ j ≠ 5) → (tag b ≠ 24 ∨ j ≠ 6) → (tag b ≠ 24 ∨ j ≠ 7) → (tag b ≠ 25 ∨ j ≠ 3) → (tag b ≠ 25 ∨ j ≠ 4) → (tag b ≠ 25 ∨ j ≠ 5) → fld F b j = fld Fo b j) ∧ EF tag F Fo := ⟨fun b j n18_0 n18_1 n18_2 n18_3 n24_2 n24_3 n24_4 n24_5 n24_6 n24_7 n25_3 n25_4 n25_5 => (h1v49429 b j (fr_ne gx1 n18_1)).trans (hfr.1 b j n18_0 n18_1 n18_2 n18_3 n24_2 n24_3 n24_4 n24_5 n24_6 n24_7 n25_3 n25_4 n25_5), fun b j hb => (h2v49429 b j).trans (hfr.2 b j hb)⟩
  refine lv_aload_n hx hb dX3_readLand_40 rfl (lv_at hl 0 rfl) ?_
  refine m_ldcK X 13 rfl dX3_readLand_41 ?_
  refine t_cVv (n := 1) (C := RX3) (T := TX3) (N := 13) (As := [.ref (G.2 (100 + 13))]) (rest := []) X hT (kt115_X3_word l G tag L F hT.2.2.2 p0 13 x0 x1 x2 x3 x4 x5 m0 g0 (by decide) mx0 gx0 pf0 mx1 gx1 pf1 mx2 gx2 pf2 mx3 gx3 pf3 mx4 gx4 pf4 mx5 gx5 pf5) m0 g0 rfl rfl qw_314 qw_315 qw_316 qw_28 qw_317 ⟨rfl, by decide +kernel, by decide +kernel, by decide +kernel⟩ ⟨Nat.le_of_ble_eq_true rfl, Nat.le_of_ble_eq_true rfl⟩ hl rfl rfl (Nat.le_of_ble_eq_true rfl) dX3_readLand_43 ⟨Nat.le_of_ble_eq_true rfl, Nat.le_of_ble_eq_true rfl⟩ (fun F H locs hT hz49430 => ?_)
  have yz49430 := hz49430
  have pf0 := (yz49430.1 _ 0 (Or.inr (by decide)) (Or.inr (by decide)) (Or.inr (by decide)) (Or.inr (by decide)) (Or.inr (by decide)) (Or.inr (by decide)) (Or.inr (by decide)) (Or.inr (by decide))).trans pf0
  have pf1 := (yz49430.1 _ 1 (Or.inr (by decide)) (Or.inr (by decide)) (Or.inr (by decide)) (Or.inr (by decide)) (Or.inr (by decide)) (Or.inr (by decide)) (Or.inr (by decide)) (Or.inr (by decide))).trans pf1
  have pf2 := (yz49430.1 _ 2 (Or.inl (by rw [g0]; decide)) (Or.inr (by decide)) (Or.inr (by decide)) (Or.inr (by decide)) (Or.inr (by decide)) (Or.inr (by decide)) (Or.inr (by decide)) (Or.inr (by decide))).trans pf2
  have pf3 := (yz49430.1 _ 0 (Or.inr (by decide)) (Or.inr (by decide)) (Or.inr (by decide)) (Or.inr (by decide)) (Or.inr (by decide)) (Or.inr (by decide)) (Or.inr (by decide)) (Or.inr (by decide))).trans pf3
  have pf4 := (yz49430.1 _ 10 (Or.inr (by decide)) (Or.inr (by decide)) (Or.inr (by decide)) (Or.inr (by decide)) (Or.inr (by decide)) (Or.inr (by decide)) (Or.inr (by decide)) (Or.inr (by decide))).trans pf4
  have pf5 := (yz49430.1 _ 11 (Or.inr (by decide)) (Or.inr (by decide)) (Or.inr (by decide)) (Or.inr (by decide)) (Or.inr (by decide)) (Or.inr (by decide)) (Or.inr (by decide)) (Or.inr (by decide))).trans pf5
  have v49425 := (yz49430.1 _ 0 (Or.inr (by decide)) (Or.inr (by decide)) (Or.inr (by decide)) (Or.inr (by decide)) (Or.inr (by decide)) (Or.inr (by decide)) (Or.inr (by decide)) (Or.inr (by decide))).trans v49425
  have v49429 := (yz49430.1 _ 1 (Or.inr (by decide)) (Or.inr (by decide)) (Or.inr (by decide)) (Or.inr (by decide)) (Or.inr (by decide)) (Or.inr (by decide)) (Or.inr (by decide)) (Or.inr (by decide))).trans v49429
  have hfr : (∀ b j : Nat, (tag b ≠ 18 ∨ j ≠ 0) → (tag b ≠ 18 ∨ j ≠ 1) → (tag b ≠ 18 ∨ j ≠ 2) → (tag b ≠ 18 ∨ j ≠ 3) → (tag b ≠ 24 ∨ j ≠ 2) → (tag b ≠ 24 ∨ j ≠ 3) → (tag b ≠ 24 ∨ j ≠ 4) → (tag b ≠ 24 ∨ j ≠ 5) → (tag b ≠ 24 ∨ j ≠ 6) → (tag b ≠ 24 ∨ j ≠ 7) → (tag b ≠ 25 ∨ j ≠ 3) → (tag b ≠ 25 ∨ j ≠ 4) → (tag b ≠ 25 ∨ j ≠ 5) → fld F b j = fld Fo b j) ∧ EF tag F Fo := ⟨fun b j n18_0 n18_1 n18_2 n18_3 n24_2 n24_3 n24_4 n24_5 n24_6 n24_7 n25_3 n25_4 n25_5 => (yz49430.1 b j n24_2 n24_3 n24_4 n24_5 n24_6 n24_7 n25_3 n25_4).trans (hfr.1 b j n18_0 n18_1 n18_2 n18_3 n24_2 n24_3 n24_4 n24_5 n24_6 n24_7 n25_3 n25_4 n25_5), fun b j hb => (yz49430.2 b j hb).trans (hfr.2 b j hb)⟩
  refine lv_aload_n hx hb dX3_readLand_46 rfl (lv_at hl 0 rfl) ?_
  refine t_get (C := RX3) (T := TX3) (N := 13) X hT m0 g0 rfl rfl 1 (by decide) qw_161 inlX3 rfl dX3_readLand_47 (fun v49431 hv49431 ov49431 => ?_)
  obtain rfl : v49431 = .ref x1 := hv49431.symm.trans pf1
  refine lv_aload_n hx hb dX3_readLand_50 rfl (lv_at hl 0 rfl) ?_
  refine m_ldcK X 14 rfl dX3_readLand_51 ?_
  refine m_ldcK X 15 rfl dX3_readLand_53 ?_
  refine m_ldcK X 16 rfl dX3_readLand_55 ?_
  refine m_ldcK X 16 rfl dX3_readLand_57 ?_
  refine t_cVi (n := 4) (C := RX3) (T := TX3) (N := 13) (As := [.ref (G.2 (100 + 14)), .ref (G.2 (100 + 15)), .ref (G.2 (100 + 16)), .ref (G.2 (100 + 16))]) (rest := [.ref x1]) X hT (kt129_X3_choice l G tag L F hT.2.2.2 p0 14 15 16 16 x0 x1 x2 x3 x4 x5 m0 g0 (by decide) (by decide) (by decide) (by decide) mx0 gx0 pf0 mx1 gx1 pf1 mx2 gx2 pf2 mx3 gx3 pf3 mx4 gx4 pf4 mx5 gx5 pf5) m0 g0 rfl rfl qw_323 qw_324 qw_325 qw_28 qw_326 ⟨rfl, by decide +kernel, by decide +kernel, by decide +kernel⟩ ⟨Nat.le_of_ble_eq_true rfl, Nat.le_of_ble_eq_true rfl⟩ hl rfl rfl (Nat.le_of_ble_eq_true rfl) dX3_readLand_59 ⟨Nat.le_of_ble_eq_true rfl, Nat.le_of_ble_eq_true rfl⟩ (fun z49432 F H locs hT hz49432 => ?_)
  obtain ⟨hz49432, yz49432⟩ := hz49432
  have pf0 := (yz49432.1 _ 0 (Or.inr (by decide)) (Or.inr (by decide)) (Or.inr (by decide)) (Or.inr (by decide)) (Or.inr (by decide)) (Or.inr (by decide)) (Or.inr (by decide)) (Or.inr (by decide))).trans pf0
  have pf1 := (yz49432.1 _ 1 (Or.inr (by decide)) (Or.inr (by decide)) (Or.inr (by decide)) (Or.inr (by decide)) (Or.inr (by decide)) (Or.inr (by decide)) (Or.inr (by decide)) (Or.inr (by decide))).trans pf1
  have pf2 := (yz49432.1 _ 2 (Or.inl (by rw [g0]; decide)) (Or.inr (by decide)) (Or.inr (by decide)) (Or.inr (by decide)) (Or.inr (by decide)) (Or.inr (by decide)) (Or.inr (by decide)) (Or.inr (by decide))).trans pf2
  have pf3 := (yz49432.1 _ 0 (Or.inr (by decide)) (Or.inr (by decide)) (Or.inr (by decide)) (Or.inr (by decide)) (Or.inr (by decide)) (Or.inr (by decide)) (Or.inr (by decide)) (Or.inr (by decide))).trans pf3
  have pf4 := (yz49432.1 _ 10 (Or.inr (by decide)) (Or.inr (by decide)) (Or.inr (by decide)) (Or.inr (by decide)) (Or.inr (by decide)) (Or.inr (by decide)) (Or.inr (by decide)) (Or.inr (by decide))).trans pf4
  have pf5 := (yz49432.1 _ 11 (Or.inr (by decide)) (Or.inr (by decide)) (Or.inr (by decide)) (Or.inr (by decide)) (Or.inr (by decide)) (Or.inr (by decide)) (Or.inr (by decide)) (Or.inr (by decide))).trans pf5
  have v49425 := (yz49432.1 _ 0 (Or.inr (by decide)) (Or.inr (by decide)) (Or.inr (by decide)) (Or.inr (by decide)) (Or.inr (by decide)) (Or.inr (by decide)) (Or.inr (by decide)) (Or.inr (by decide))).trans v49425
  have v49429 := (yz49432.1 _ 1 (Or.inr (by decide)) (Or.inr (by decide)) (Or.inr (by decide)) (Or.inr (by decide)) (Or.inr (by decide)) (Or.inr (by decide)) (Or.inr (by decide)) (Or.inr (by decide))).trans v49429
  have hfr : (∀ b j : Nat, (tag b ≠ 18 ∨ j ≠ 0) → (tag b ≠ 18 ∨ j ≠ 1) → (tag b ≠ 18 ∨ j ≠ 2) → (tag b ≠ 18 ∨ j ≠ 3) → (tag b ≠ 24 ∨ j ≠ 2) → (tag b ≠ 24 ∨ j ≠ 3) → (tag b ≠ 24 ∨ j ≠ 4) → (tag b ≠ 24 ∨ j ≠ 5) → (tag b ≠ 24 ∨ j ≠ 6) → (tag b ≠ 24 ∨ j ≠ 7) → (tag b ≠ 25 ∨ j ≠ 3) → (tag b ≠ 25 ∨ j ≠ 4) → (tag b ≠ 25 ∨ j ≠ 5) → fld F b j = fld Fo b j) ∧ EF tag F Fo := ⟨fun b j n18_0 n18_1 n18_2 n18_3 n24_2 n24_3 n24_4 n24_5 n24_6 n24_7 n25_3 n25_4 n25_5 => (yz49432.1 b j n24_2 n24_3 n24_4 n24_5 n24_6 n24_7 n25_3 n25_4).trans (hfr.1 b j n18_0 n18_1 n18_2 n18_3 n24_2 n24_3 n24_4 n24_5 n24_6 n24_7 n25_3 n25_4 n25_5), fun b j hb => (yz49432.2 b j hb).trans (hfr.2 b j hb)⟩
  refine lv_iconst (v := 1) hx hb dX3_readLand_62 (by decide) ?_
  refine lv_icmp_ne (tgt := 70) hx hb dX3_readLand_63 (by decide) (fun c49433 => ?_) (fun c49433 => ?_)
  · have w49434 := cv_ne (rfl : z49432.toInt = z49432.toInt) (by decide : (1 : Int32).toInt = 1) c49433
    refine lv_iconst (v := 0) hx hb dX3_readLand_70 (by decide) ?_
    exact K71 0 x1 _ _ _ _ (by decide) mx1 gx1 hT hfr pf0 pf1 pf2 pf3 pf4 pf5 (lv_sub hl [0] rfl)
  · have w49435 := cv_eq (rfl : z49432.toInt = z49432.toInt) (by decide : (1 : Int32).toInt = 1) c49433
    refine lv_iconst (v := 1) hx hb dX3_readLand_66 (by decide) ?_
    refine lv_goto (tgt := 71) hx hb dX3_readLand_67 (by decide) ?_
    exact K71 1 x1 _ _ _ _ (by decide) mx1 gx1 hT hfr pf0 pf1 pf2 pf3 pf4 pf5 (lv_sub hl [0] rfl)
