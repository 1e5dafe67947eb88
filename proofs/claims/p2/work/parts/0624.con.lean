set_option maxHeartbeats 4000000 in
set_option maxRecDepth 100000 in
theorem kt454_X3_whole (l : Launch) (G : KG) (tag : Nat → Nat) (L : List Nat) (Fo : Nat → va_E) (ho : okT G ttC tag L Fo) (p0 : Nat) (p1 : Int32) (p2 : Int32) (x0 : Nat) (x1 : Nat) (x2 : Nat) (x3 : Nat) (x4 : Nat) (x5 : Nat) (m0 : p0 ∈ L) (g0 : tag p0 = 25) (h1 : 0 ≤ p1.toInt ∧ p1.toInt ≤ 0) (h2 : 99 ≤ p2.toInt ∧ p2.toInt ≤ 99) (mx0 : x0 ∈ L) (gx0 : tag x0 = 24) (pf0 : fld Fo p0 0 = .ref x0) (mx1 : x1 ∈ L) (gx1 : tag x1 = 18) (pf1 : fld Fo p0 1 = .ref x1) (mx2 : x2 ∈ L) (gx2 : tag x2 = 19) (pf2 : fld Fo p0 2 = .ref x2) (mx3 : x3 ∈ L) (gx3 : tag x3 = 1) (pf3 : fld Fo x0 0 = .ref x3) (mx4 : x4 ∈ L) (gx4 : tag x4 = 14) (pf4 : fld Fo p0 10 = .ref x4) (mx5 : x5 ∈ L) (gx5 : tag x5 = 15) (pf5 : fld Fo p0 11 = .ref x5) : TMi l yX3_whole cX3_whole 4 (some .int) { frames := 3, cells := 0, slots := 0, locals := 62 } G ttC tag L Fo [.ref p0, .int p1, .int p2] (fun r F1 => (0 ≤ r.toInt ∧ r.toInt ≤ 99) ∧ ((∀ b j : Nat, (tag b ≠ 24 ∨ j ≠ 2) → (tag b ≠ 24 ∨ j ≠ 3) → (tag b ≠ 24 ∨ j ≠ 4) → (tag b ≠ 24 ∨ j ≠ 5) → (tag b ≠ 24 ∨ j ≠ 6) → (tag b ≠ 24 ∨ j ≠ 7) → (tag b ≠ 25 ∨ j ≠ 3) → (tag b ≠ 25 ∨ j ≠ 4) → fld F1 b j = fld Fo b j) ∧ EF tag F1 Fo)) := by
  refine t_bodyi (y := yX3_whole) (cd := cX3_whole) (mL := 4) (rt := (some .int)) (rm := { frames := 3, cells := 0, slots := 0, locals := 62 }) (av := [.ref p0, .int p1, .int p2]) (by decide) (Nat.le_of_ble_eq_true rfl) ho ?_
  intro p e s m args below meth c ls A Q hQ X hT hl
  have hx := X.1.1
  have hb := X.1.2.1
  have hl : lv_has ls 4 [(0, .ref p0), (1, .int p1), (2, .int p2)] := hl
  obtain ⟨F, hFo⟩ : ∃ F : Nat → va_E, F = Fo := ⟨_, rfl⟩
  rw [← hFo] at hT pf0 pf1 pf2 pf3 pf4 pf5
  have hfr : (∀ b j : Nat, (tag b ≠ 24 ∨ j ≠ 2) → (tag b ≠ 24 ∨ j ≠ 3) → (tag b ≠ 24 ∨ j ≠ 4) → (tag b ≠ 24 ∨ j ≠ 5) → (tag b ≠ 24 ∨ j ≠ 6) → (tag b ≠ 24 ∨ j ≠ 7) → (tag b ≠ 25 ∨ j ≠ 3) → (tag b ≠ 25 ∨ j ≠ 4) → fld F b j = fld Fo b j) ∧ EF tag F Fo := by
    rw [hFo]
    exact ⟨by intros; rfl, fun _ _ _ => rfl⟩
  refine lv_aload_n hx hb dX3_whole_0 rfl (lv_at hl 0 rfl) ?_
  refine t_get (C := RX3) (T := TX3) (N := 13) X hT m0 g0 rfl rfl 0 (by decide) qw_73 inlX3 rfl dX3_whole_1 (fun v152566 hv152566 ov152566 => ?_)
  obtain rfl : v152566 = .ref x0 := hv152566.symm.trans pf0
  refine t_get (C := RX8) (T := TX8) (N := 8) X hT mx0 gx0 rfl rfl 3 (by decide) qw_170 inlX8 rfl dX3_whole_4 (fun v152567 hv152567 ov152567 => ?_)
  obtain ⟨z152568, rfl, rz152568⟩ := okV_i ov152567
  refine lv_iconst (v := 2) hx hb dX3_whole_7 (by decide) ?_
  refine lv_icmp_eq (tgt := 26) hx hb dX3_whole_8 (by decide) (fun c152569 => ?_) (fun c152569 => ?_)
  · have w152570 := cv_eq (rfl : z152568.toInt = z152568.toInt) (by decide : (2 : Int32).toInt = 2) c152569
    refine lv_aload_n hx hb dX3_whole_26 rfl (lv_at hl 0 rfl) ?_
    refine t_get (C := RX3) (T := TX3) (N := 13) X hT m0 g0 rfl rfl 0 (by decide) qw_73 inlX3 rfl dX3_whole_27 (fun v152571 hv152571 ov152571 => ?_)
    obtain rfl : v152571 = .ref x0 := hv152571.symm.trans pf0
    refine t_get (C := RX8) (T := TX8) (N := 8) X hT mx0 gx0 rfl rfl 6 (by decide) qw_322 inlX8 rfl dX3_whole_30 (fun v152572 hv152572 ov152572 => ?_)
    obtain ⟨z152573, rfl, rz152573⟩ := okV_i ov152572
    refine lv_iload_n hx hb dX3_whole_33 rfl (lv_at hl 1 rfl) ?_
    refine lv_icmp_lt (tgt := 48) hx hb dX3_whole_34 (by decide) (fun c152574 => ?_) (fun c152574 => ?_)
    · have w152575 := cv_lt (rfl : z152573.toInt = z152573.toInt) (rfl : p1.toInt = p1.toInt) c152574
      refine lv_aload_n hx hb dX3_whole_48 rfl (lv_at hl 0 rfl) ?_
      refine lv_iconst (v := 4) hx hb dX3_whole_49 (by decide) ?_
      refine lv_aload_n hx hb dX3_whole_50 rfl (lv_at hl 0 rfl) ?_
      refine t_get (C := RX3) (T := TX3) (N := 13) X hT m0 g0 rfl rfl 0 (by decide) qw_73 inlX3 rfl dX3_whole_51 (fun v152576 hv152576 ov152576 => ?_)
      obtain rfl : v152576 = .ref x0 := hv152576.symm.trans pf0
      refine t_get (C := RX8) (T := TX8) (N := 8) X hT mx0 gx0 rfl rfl 4 (by decide) qw_227 inlX8 rfl dX3_whole_54 (fun v152577 hv152577 ov152577 => ?_)
      obtain ⟨z152578, rfl, rz152578⟩ := okV_i ov152577
      refine t_cVv (n := 2) (C := RX3) (T := TX3) (N := 13) (As := [.int 4, .int z152578]) (rest := []) X hT (kt432_X3_fail l G tag L F hT.2.2.2 p0 4 z152578 m0 g0 (by decide)) m0 g0 rfl rfl qw_287 qw_288 qw_289 qw_28 qw_290 ⟨rfl, by decide +kernel, by decide +kernel, by decide +kernel⟩ ⟨Nat.le_of_ble_eq_true rfl, Nat.le_of_ble_eq_true rfl⟩ hl rfl rfl (Nat.le_of_ble_eq_true rfl) dX3_whole_57 ⟨Nat.le_of_ble_eq_true rfl, Nat.le_of_ble_eq_true rfl⟩ (fun F H locs hT hz152579 => ?_)
      obtain ⟨yz152579, xz152579_0⟩ := hz152579
      have pf0 := (yz152579.1 _ 0 (Or.inr (by decide)) (Or.inr (by decide))).trans pf0
      have pf1 := (yz152579.1 _ 1 (Or.inr (by decide)) (Or.inr (by decide))).trans pf1
      have pf2 := (yz152579.1 _ 2 (Or.inr (by decide)) (Or.inr (by decide))).trans pf2
      have pf3 := (yz152579.1 _ 0 (Or.inr (by decide)) (Or.inr (by decide))).trans pf3
      have pf4 := (yz152579.1 _ 10 (Or.inr (by decide)) (Or.inr (by decide))).trans pf4
      have pf5 := (yz152579.1 _ 11 (Or.inr (by decide)) (Or.inr (by decide))).trans pf5
      have hv152567 := (yz152579.1 _ 3 (Or.inl (by rw [gx0]; decide)) (Or.inr (by decide))).trans hv152567
      have hv152572 := (yz152579.1 _ 6 (Or.inr (by decide)) (Or.inr (by decide))).trans hv152572
      have hv152577 := (yz152579.1 _ 4 (Or.inr (by decide)) (Or.inl (by rw [gx0]; decide))).trans hv152577
      have hfr : (∀ b j : Nat, (tag b ≠ 24 ∨ j ≠ 2) → (tag b ≠ 24 ∨ j ≠ 3) → (tag b ≠ 24 ∨ j ≠ 4) → (tag b ≠ 24 ∨ j ≠ 5) → (tag b ≠ 24 ∨ j ≠ 6) → (tag b ≠ 24 ∨ j ≠ 7) → (tag b ≠ 25 ∨ j ≠ 3) → (tag b ≠ 25 ∨ j ≠ 4) → fld F b j = fld Fo b j) ∧ EF tag F Fo := ⟨fun b j n24_2 n24_3 n24_4 n24_5 n24_6 n24_7 n25_3 n25_4 => (yz152579.1 b j n25_3 n25_4).trans (hfr.1 b j n24_2 n24_3 n24_4 n24_5 n24_6 n24_7 n25_3 n25_4), fun b j hb => (yz152579.2 b j hb).trans (hfr.2 b j hb)⟩
      obtain ⟨z152580, qz152580, rz152580⟩ := xz152579_0
      refine lv_aload_n hx hb dX3_whole_60 rfl (lv_at hl 0 rfl) ?_
      refine t_get (C := RX3) (T := TX3) (N := 13) X hT m0 g0 rfl rfl 3 (by decide) qw_163 inlX3 rfl dX3_whole_61 (fun v152581 hv152581 ov152581 => ?_)
      obtain rfl : v152581 = .int z152580 := hv152581.symm.trans qz152580
      refine lv_if_eq (tgt := 69) hx hb dX3_whole_64 (by decide) (fun c152582 => ?_) (fun c152582 => ?_)
      · have w152583 := cv_eq (rfl : z152580.toInt = z152580.toInt) (by decide : (0 : Int32).toInt = 0) c152582
        exfalso
        omega
      · have w152584 := cv_ne (rfl : z152580.toInt = z152580.toInt) (by decide : (0 : Int32).toInt = 0) c152582
        refine lv_iload_n hx hb dX3_whole_67 rfl (lv_at hl 1 rfl) ?_
        exact t_iret hQ X hT (⟨(by omega), hfr⟩) (Nat.le_of_ble_eq_true rfl) (Nat.le_of_ble_eq_true rfl) dX3_whole_68
    · have w152585 := cv_nlt (rfl : z152573.toInt = z152573.toInt) (rfl : p1.toInt = p1.toInt) c152574
      refine lv_aload_n hx hb dX3_whole_37 rfl (lv_at hl 0 rfl) ?_
      refine t_get (C := RX3) (T := TX3) (N := 13) X hT m0 g0 rfl rfl 0 (by decide) qw_73 inlX3 rfl dX3_whole_38 (fun v152586 hv152586 ov152586 => ?_)
      obtain rfl : v152586 = .ref x0 := hv152586.symm.trans pf0
      refine t_get (C := RX8) (T := TX8) (N := 8) X hT mx0 gx0 rfl rfl 6 (by decide) qw_322 inlX8 rfl dX3_whole_41 (fun v152587 hv152587 ov152587 => ?_)
      obtain rfl : v152587 = .int z152573 := hv152587.symm.trans hv152572
      refine lv_iload_n hx hb dX3_whole_44 rfl (lv_at hl 2 rfl) ?_
      refine lv_icmp_le (tgt := 60) hx hb dX3_whole_45 (by decide) (fun c152588 => ?_) (fun c152588 => ?_)
      · have w152589 := cv_le (rfl : z152573.toInt = z152573.toInt) (rfl : p2.toInt = p2.toInt) c152588
        refine lv_aload_n hx hb dX3_whole_60 rfl (lv_at hl 0 rfl) ?_
        refine t_get (C := RX3) (T := TX3) (N := 13) X hT m0 g0 rfl rfl 3 (by decide) qw_163 inlX3 rfl dX3_whole_61 (fun v152590 hv152590 ov152590 => ?_)
        obtain ⟨z152591, rfl, rz152591⟩ := okV_i ov152590
        refine lv_if_eq (tgt := 69) hx hb dX3_whole_64 (by decide) (fun c152592 => ?_) (fun c152592 => ?_)
        · have w152593 := cv_eq (rfl : z152591.toInt = z152591.toInt) (by decide : (0 : Int32).toInt = 0) c152592
          refine lv_aload_n hx hb dX3_whole_69 rfl (lv_at hl 0 rfl) ?_
          refine t_get (C := RX3) (T := TX3) (N := 13) X hT m0 g0 rfl rfl 0 (by decide) qw_73 inlX3 rfl dX3_whole_70 (fun v152594 hv152594 ov152594 => ?_)
          obtain rfl : v152594 = .ref x0 := hv152594.symm.trans pf0
          refine t_get (C := RX8) (T := TX8) (N := 8) X hT mx0 gx0 rfl rfl 6 (by decide) qw_322 inlX8 rfl dX3_whole_73 (fun v152595 hv152595 ov152595 => ?_)
          obtain rfl : v152595 = .int z152573 := hv152595.symm.trans hv152572
          refine lv_istore_n (lv' := [(3, .int z152573), (0, .ref p0), (1, .int p1), (2, .int p2)]) hx hb dX3_whole_76 rfl hl (by decide) rfl (fun ls hl => ?_)
          refine lv_aload_n hx hb dX3_whole_77 rfl (lv_at hl 1 rfl) ?_
          refine t_get (C := RX3) (T := TX3) (N := 13) X hT m0 g0 rfl rfl 0 (by decide) qw_73 inlX3 rfl dX3_whole_78 (fun v152596 hv152596 ov152596 => ?_)
          obtain rfl : v152596 = .ref x0 := hv152596.symm.trans pf0
          refine t_cVv (n := 0) (C := RX8) (T := TX8) (N := 8) (As := []) (rest := []) X hT (kt440_X8_advance l G tag L F hT.2.2.2 x0 x3 mx0 gx0 mx3 gx3 pf3) mx0 gx0 rfl rfl qw_305 qw_197 qw_198 qw_72 qw_199 ⟨rfl, by decide +kernel, by decide +kernel, by decide +kernel⟩ ⟨Nat.le_of_ble_eq_true rfl, Nat.le_of_ble_eq_true rfl⟩ hl rfl rfl (Nat.le_of_ble_eq_true rfl) dX3_whole_81 ⟨Nat.le_of_ble_eq_true rfl, Nat.le_of_ble_eq_true rfl⟩ (fun F H locs hT hz152597 => ?_)
          have yz152597 := hz152597
          have pf0 := (yz152597.1 _ 0 (Or.inr (by decide)) (Or.inr (by decide)) (Or.inr (by decide)) (Or.inr (by decide)) (Or.inr (by decide)) (Or.inr (by decide))).trans pf0
          have pf1 := (yz152597.1 _ 1 (Or.inr (by decide)) (Or.inr (by decide)) (Or.inr (by decide)) (Or.inr (by decide)) (Or.inr (by decide)) (Or.inr (by decide))).trans pf1
          have pf2 := (yz152597.1 _ 2 (Or.inl (by rw [g0]; decide)) (Or.inr (by decide)) (Or.inr (by decide)) (Or.inr (by decide)) (Or.inr (by decide)) (Or.inr (by decide))).trans pf2
          have pf3 := (yz152597.1 _ 0 (Or.inr (by decide)) (Or.inr (by decide)) (Or.inr (by decide)) (Or.inr (by decide)) (Or.inr (by decide)) (Or.inr (by decide))).trans pf3
          have pf4 := (yz152597.1 _ 10 (Or.inr (by decide)) (Or.inr (by decide)) (Or.inr (by decide)) (Or.inr (by decide)) (Or.inr (by decide)) (Or.inr (by decide))).trans pf4
          have pf5 := (yz152597.1 _ 11 (Or.inr (by decide)) (Or.inr (by decide)) (Or.inr (by decide)) (Or.inr (by decide)) (Or.inr (by decide)) (Or.inr (by decide))).trans pf5
          have hv152590 := (yz152597.1 _ 3 (Or.inr (by decide)) (Or.inl (by rw [g0]; decide)) (Or.inr (by decide)) (Or.inr (by decide)) (Or.inr (by decide)) (Or.inr (by decide))).trans hv152590
          have hfr : (∀ b j : Nat, (tag b ≠ 24 ∨ j ≠ 2) → (tag b ≠ 24 ∨ j ≠ 3) → (tag b ≠ 24 ∨ j ≠ 4) → (tag b ≠ 24 ∨ j ≠ 5) → (tag b ≠ 24 ∨ j ≠ 6) → (tag b ≠ 24 ∨ j ≠ 7) → (tag b ≠ 25 ∨ j ≠ 3) → (tag b ≠ 25 ∨ j ≠ 4) → fld F b j = fld Fo b j) ∧ EF tag F Fo := ⟨fun b j n24_2 n24_3 n24_4 n24_5 n24_6 n24_7 n25_3 n25_4 => (yz152597.1 b j n24_2 n24_3 n24_4 n24_5 n24_6 n24_7).trans (hfr.1 b j n24_2 n24_3 n24_4 n24_5 n24_6 n24_7 n25_3 n25_4), fun b j hb => (yz152597.2 b j hb).trans (hfr.2 b j hb)⟩
          refine lv_iload_n hx hb dX3_whole_84 rfl (lv_at hl 0 rfl) ?_
          exact t_iret hQ X hT (⟨(by omega), hfr⟩) (Nat.le_of_ble_eq_true rfl) (Nat.le_of_ble_eq_true rfl) dX3_whole_85
        · have w152598 := cv_ne (rfl : z152591.toInt = z152591.toInt) (by decide : (0 : Int32).toInt = 0) c152592
          refine lv_iload_n hx hb dX3_whole_67 rfl (lv_at hl 1 rfl) ?_
          exact t_iret hQ X hT (⟨(by omega), hfr⟩) (Nat.le_of_ble_eq_true rfl) (Nat.le_of_ble_eq_true rfl) dX3_whole_68
      · have w152599 := cv_nle (rfl : z152573.toInt = z152573.toInt) (rfl : p2.toInt = p2.toInt) c152588
        refine lv_aload_n hx hb dX3_whole_48 rfl (lv_at hl 0 rfl) ?_
        refine lv_iconst (v := 4) hx hb dX3_whole_49 (by decide) ?_
        refine lv_aload_n hx hb dX3_whole_50 rfl (lv_at hl 0 rfl) ?_
        refine t_get (C := RX3) (T := TX3) (N := 13) X hT m0 g0 rfl rfl 0 (by decide) qw_73 inlX3 rfl dX3_whole_51 (fun v152600 hv152600 ov152600 => ?_)
        obtain rfl : v152600 = .ref x0 := hv152600.symm.trans pf0
        refine t_get (C := RX8) (T := TX8) (N := 8) X hT mx0 gx0 rfl rfl 4 (by decide) qw_227 inlX8 rfl dX3_whole_54 (fun v152601 hv152601 ov152601 => ?_)
        obtain ⟨z152602, rfl, rz152602⟩ := okV_i ov152601
        refine t_cVv (n := 2) (C := RX3) (T := TX3) (N := 13) (As := [.int 4, .int z152602]) (rest := []) X hT (kt432_X3_fail l G tag L F hT.2.2.2 p0 4 z152602 m0 g0 (by decide)) m0 g0 rfl rfl qw_287 qw_288 qw_289 qw_28 qw_290 ⟨rfl, by decide +kernel, by decide +kernel, by decide +kernel⟩ ⟨Nat.le_of_ble_eq_true rfl, Nat.le_of_ble_eq_true rfl⟩ hl rfl rfl (Nat.le_of_ble_eq_true rfl) dX3_whole_57 ⟨Nat.le_of_ble_eq_true rfl, Nat.le_of_ble_eq_true rfl⟩ (fun F H locs hT hz152603 => ?_)
        obtain ⟨yz152603, xz152603_0⟩ := hz152603
        have pf0 := (yz152603.1 _ 0 (Or.inr (by decide)) (Or.inr (by decide))).trans pf0
        have pf1 := (yz152603.1 _ 1 (Or.inr (by decide)) (Or.inr (by decide))).trans pf1
        have pf2 := (yz152603.1 _ 2 (Or.inr (by decide)) (Or.inr (by decide))).trans pf2
        have pf3 := (yz152603.1 _ 0 (Or.inr (by decide)) (Or.inr (by decide))).trans pf3
        have pf4 := (yz152603.1 _ 10 (Or.inr (by decide)) (Or.inr (by decide))).trans pf4
        have pf5 := (yz152603.1 _ 11 (Or.inr (by decide)) (Or.inr (by decide))).trans pf5
        have hv152567 := (yz152603.1 _ 3 (Or.inl (by rw [gx0]; decide)) (Or.inr (by decide))).trans hv152567
        have hv152572 := (yz152603.1 _ 6 (Or.inr (by decide)) (Or.inr (by decide))).trans hv152572
        have hv152601 := (yz152603.1 _ 4 (Or.inr (by decide)) (Or.inl (by rw [gx0]; decide))).trans hv152601
        have hfr : (∀ b j : Nat, (tag b ≠ 24 ∨ j ≠ 2) → (tag b ≠ 24 ∨ j ≠ 3) → (tag b ≠ 24 ∨ j ≠ 4) → (tag b ≠ 24 ∨ j ≠ 5) → (tag b ≠ 24 ∨ j ≠ 6) → (tag b ≠ 24 ∨ j ≠ 7) → (tag b ≠ 25 ∨ j ≠ 3) → (tag b ≠ 25 ∨ j ≠ 4) → fld F b j = fld Fo b j) ∧ EF tag F Fo := ⟨fun b j n24_2 n24_3 n24_4 n24_5 n24_6 n24_7 n25_3 n25_4 => (yz152603.1 b j n25_3 n25_4).trans (hfr.1 b j n24_2 n24_3 n24_4 n24_5 n24_6 n24_7 n25_3 n25_4), fun b j hb => (yz152603.2 b j hb).trans (hfr.2 b j hb)⟩
        obtain ⟨z152604, qz152604, rz152604⟩ := xz152603_0
        refine lv_aload_n hx hb dX3_whole_60 rfl (lv_at hl 0 rfl) ?_
        refine t_get (C := RX3) (T := TX3) (N := 13) X hT m0 g0 rfl rfl 3 (by decide) qw_163 inlX3 rfl dX3_whole_61 (fun v152605 hv152605 ov152605 => ?_)
        obtain rfl : v152605 = .int z152604 := hv152605.symm.trans qz152604
        refine lv_if_eq (tgt := 69) hx hb dX3_whole_64 (by decide) (fun c152606 => ?_) (fun c152606 => ?_)
        · have w152607 := cv_eq (rfl : z152604.toInt = z152604.toInt) (by decide : (0 : Int32).toInt = 0) c152606
          exfalso
          omega
        · have w152608 := cv_ne (rfl : z152604.toInt = z152604.toInt) (by decide : (0 : Int32).toInt = 0) c152606
          refine lv_iload_n hx hb dX3_whole_67 rfl (lv_at hl 1 rfl) ?_
          exact t_iret hQ X hT (⟨(by omega), hfr⟩) (Nat.le_of_ble_eq_true rfl) (Nat.le_of_ble_eq_true rfl) dX3_whole_68
  · have w152609 := cv_ne (rfl : z152568.toInt = z152568.toInt) (by decide : (2 : Int32).toInt = 2) c152569
    refine lv_aload_n hx hb dX3_whole_11 rfl (lv_at hl 0 rfl) ?_
    refine lv_iconst (v := 1) hx hb dX3_whole_12 (by decide) ?_
    refine lv_aload_n hx hb dX3_whole_13 rfl (lv_at hl 0 rfl) ?_
    refine t_get (C := RX3) (T := TX3) (N := 13) X hT m0 g0 rfl rfl 0 (by decide) qw_73 inlX3 rfl dX3_whole_14 (fun v152610 hv152610 ov152610 => ?_)
    obtain rfl : v152610 = .ref x0 := hv152610.symm.trans pf0
    refine t_get (C := RX8) (T := TX8) (N := 8) X hT mx0 gx0 rfl rfl 4 (by decide) qw_227 inlX8 rfl dX3_whole_17 (fun v152611 hv152611 ov152611 => ?_)
    obtain ⟨z152612, rfl, rz152612⟩ := okV_i ov152611
    refine t_cVv (n := 2) (C := RX3) (T := TX3) (N := 13) (As := [.int 1, .int z152612]) (rest := []) X hT (kt432_X3_fail l G tag L F hT.2.2.2 p0 1 z152612 m0 g0 (by decide)) m0 g0 rfl rfl qw_287 qw_288 qw_289 qw_28 qw_290 ⟨rfl, by decide +kernel, by decide +kernel, by decide +kernel⟩ ⟨Nat.le_of_ble_eq_true rfl, Nat.le_of_ble_eq_true rfl⟩ hl rfl rfl (Nat.le_of_ble_eq_true rfl) dX3_whole_20 ⟨Nat.le_of_ble_eq_true rfl, Nat.le_of_ble_eq_true rfl⟩ (fun F H locs hT hz152613 => ?_)
    obtain ⟨yz152613, xz152613_0⟩ := hz152613
    have pf0 := (yz152613.1 _ 0 (Or.inr (by decide)) (Or.inr (by decide))).trans pf0
    have pf1 := (yz152613.1 _ 1 (Or.inr (by decide)) (Or.inr (by decide))).trans pf1
    have pf2 := (yz152613.1 _ 2 (Or.inr (by decide)) (Or.inr (by decide))).trans pf2
    have pf3 := (yz152613.1 _ 0 (Or.inr (by decide)) (Or.inr (by decide))).trans pf3
    have pf4 := (yz152613.1 _ 10 (Or.inr (by decide)) (Or.inr (by decide))).trans pf4
    have pf5 := (yz152613.1 _ 11 (Or.inr (by decide)) (Or.inr (by decide))).trans pf5
    have hv152567 := (yz152613.1 _ 3 (Or.inl (by rw [gx0]; decide)) (Or.inr (by decide))).trans hv152567
    have hv152611 := (yz152613.1 _ 4 (Or.inr (by decide)) (Or.inl (by rw [gx0]; decide))).trans hv152611
    have hfr : (∀ b j : Nat, (tag b ≠ 24 ∨ j ≠ 2) → (tag b ≠ 24 ∨ j ≠ 3) → (tag b ≠ 24 ∨ j ≠ 4) → (tag b ≠ 24 ∨ j ≠ 5) → (tag b ≠ 24 ∨ j ≠ 6) → (tag b ≠ 24 ∨ j ≠ 7) → (tag b ≠ 25 ∨ j ≠ 3) → (tag b ≠ 25 ∨ j ≠ 4) → fld F b j = fld Fo b j) ∧ EF tag F Fo := ⟨fun b j n24_2 n24_3 n24_4 n24_5 n24_6 n24_7 n25_3 n25_4 => (yz152613.1 b j n25_3 n25_4).trans (hfr.1 b j n24_2 n24_3 n24_4 n24_5 n24_6 n24_7 n25_3 n25_4), fun b j hb => (yz152613.2 b j hb).trans (hfr.2 b j hb)⟩
    obtain ⟨z152614, qz152614, rz152614⟩ := xz152613_0
    refine lv_goto (tgt := 60) hx hb dX3_whole_23 (by decide) ?_
    refine lv_aload_n hx hb dX3_whole_60 rfl (lv_at hl 0 rfl) ?_
    refine t_get (C := RX3) (T := TX3) (N := 13) X hT m0 g0 rfl rfl 3 (by decide) qw_163 inlX3 rfl dX3_whole_61 (fun v152615 hv152615 ov152615 => ?_)
    obtain rfl : v152615 = .int z152614 := hv152615.symm.trans qz152614
    refine lv_if_eq (tgt := 69) hx hb dX3_whole_64 (by decide) (fun c152616 => ?_) (fun c152616 => ?_)
    · have w152617 := cv_eq (rfl : z152614.toInt = z152614.toInt) (by decide : (0 : Int32).toInt = 0) c152616
      exfalso
      omega
    · have w152618 := cv_ne (rfl : z152614.toInt = z152614.toInt) (by decide : (0 : Int32).toInt = 0) c152616
      refine lv_iload_n hx hb dX3_whole_67 rfl (lv_at hl 1 rfl) ?_
      exact t_iret hQ X hT (⟨(by omega), hfr⟩) (Nat.le_of_ble_eq_true rfl) (Nat.le_of_ble_eq_true rfl) dX3_whole_68
set_option maxHeartbeats 4000000 in
set_option maxRecDepth 100000 in
theorem kt455_X3_whole (l : Launch) (G : KG) (tag : Nat → Nat) (L : List Nat) (Fo : Nat → va_E) (ho : okT G ttC tag L Fo) (p0 : Nat) (p1 : Int32) (p2 : Int32) (x0 : Nat) (x1 : Nat) (x2 : Nat) (x3 : Nat) (x4 : Nat) (x5 : Nat) (m0 : p0 ∈ L) (g0 : tag p0 = 25) (h1 : 0 ≤ p1.toInt ∧ p1.toInt ≤ 0) (h2 : 999 ≤ p2.toInt ∧ p2.toInt ≤ 999) (mx0 : x0 ∈ L) (gx0 : tag x0 = 24) (pf0 : fld Fo p0 0 = .ref x0) (mx1 : x1 ∈ L) (gx1 : tag x1 = 18) (pf1 : fld Fo p0 1 = .ref x1) (mx2 : x2 ∈ L) (gx2 : tag x2 = 19) (pf2 : fld Fo p0 2 = .ref x2) (mx3 : x3 ∈ L) (gx3 : tag x3 = 1) (pf3 : fld Fo x0 0 = .ref x3) (mx4 : x4 ∈ L) (gx4 : tag x4 = 14) (pf4 : fld Fo p0 10 = .ref x4) (mx5 : x5 ∈ L) (gx5 : tag x5 = 15) (pf5 : fld Fo p0 11 = .ref x5) : TMi l yX3_whole cX3_whole 4 (some .int) { frames := 3, cells := 0, slots := 0, locals := 62 } G ttC tag L Fo [.ref p0, .int p1, .int p2] (fun r F1 => (0 ≤ r.toInt ∧ r.toInt ≤ 999) ∧ ((∀ b j : Nat, (tag b ≠ 24 ∨ j ≠ 2) → (tag b ≠ 24 ∨ j ≠ 3) → (tag b ≠ 24 ∨ j ≠ 4) → (tag b ≠ 24 ∨ j ≠ 5) → (tag b ≠ 24 ∨ j ≠ 6) → (tag b ≠ 24 ∨ j ≠ 7) → (tag b ≠ 25 ∨ j ≠ 3) → (tag b ≠ 25 ∨ j ≠ 4) → fld F1 b j = fld Fo b j) ∧ EF tag F1 Fo)) := by
  refine t_bodyi (y := yX3_whole) (cd := cX3_whole) (mL := 4) (rt := (some .int)) (rm := { frames := 3, cells := 0, slots := 0, locals := 62 }) (av := [.ref p0, .int p1, .int p2]) (by decide) (Nat.le_of_ble_eq_true rfl) ho ?_
  intro p e s m args below meth c ls A Q hQ X hT hl
  have hx := X.1.1
  have hb := X.1.2.1
  have hl : lv_has ls 4 [(0, .ref p0), (1, .int p1), (2, .int p2)] := hl
  obtain ⟨F, hFo⟩ : ∃ F : Nat → va_E, F = Fo := ⟨_, rfl⟩
  rw [← hFo] at hT pf0 pf1 pf2 pf3 pf4 pf5
  have hfr : (∀ b j : Nat, (tag b ≠ 24 ∨ j ≠ 2) → (tag b ≠ 24 ∨ j ≠ 3) → (tag b ≠ 24 ∨ j ≠ 4) → (tag b ≠ 24 ∨ j ≠ 5) → (tag b ≠ 24 ∨ j ≠ 6) → (tag b ≠ 24 ∨ j ≠ 7) → (tag b ≠ 25 ∨ j ≠ 3) → (tag b ≠ 25 ∨ j ≠ 4) → fld F b j = fld Fo b j) ∧ EF tag F Fo := by
    rw [hFo]
    exact ⟨by intros; rfl, fun _ _ _ => rfl⟩
  refine lv_aload_n hx hb dX3_whole_0 rfl (lv_at hl 0 rfl) ?_
  refine t_get (C := RX3) (T := TX3) (N := 13) X hT m0 g0 rfl rfl 0 (by decide) qw_73 inlX3 rfl dX3_whole_1 (fun v153204 hv153204 ov153204 => ?_)
  obtain rfl : v153204 = .ref x0 := hv153204.symm.trans pf0
  refine t_get (C := RX8) (T := TX8) (N := 8) X hT mx0 gx0 rfl rfl 3 (by decide) qw_170 inlX8 rfl dX3_whole_4 (fun v153205 hv153205 ov153205 => ?_)
  obtain ⟨z153206, rfl, rz153206⟩ := okV_i ov153205
  refine lv_iconst (v := 2) hx hb dX3_whole_7 (by decide) ?_
  refine lv_icmp_eq (tgt := 26) hx hb dX3_whole_8 (by decide) (fun c153207 => ?_) (fun c153207 => ?_)
  · have w153208 := cv_eq (rfl : z153206.toInt = z153206.toInt) (by decide : (2 : Int32).toInt = 2) c153207
    refine lv_aload_n hx hb dX3_whole_26 rfl (lv_at hl 0 rfl) ?_
    refine t_get (C := RX3) (T := TX3) (N := 13) X hT m0 g0 rfl rfl 0 (by decide) qw_73 inlX3 rfl dX3_whole_27 (fun v153209 hv153209 ov153209 => ?_)
    obtain rfl : v153209 = .ref x0 := hv153209.symm.trans pf0
    refine t_get (C := RX8) (T := TX8) (N := 8) X hT mx0 gx0 rfl rfl 6 (by decide) qw_322 inlX8 rfl dX3_whole_30 (fun v153210 hv153210 ov153210 => ?_)
    obtain ⟨z153211, rfl, rz153211⟩ := okV_i ov153210
    refine lv_iload_n hx hb dX3_whole_33 rfl (lv_at hl 1 rfl) ?_
    refine lv_icmp_lt (tgt := 48) hx hb dX3_whole_34 (by decide) (fun c153212 => ?_) (fun c153212 => ?_)
    · have w153213 := cv_lt (rfl : z153211.toInt = z153211.toInt) (rfl : p1.toInt = p1.toInt) c153212
      refine lv_aload_n hx hb dX3_whole_48 rfl (lv_at hl 0 rfl) ?_
      refine lv_iconst (v := 4) hx hb dX3_whole_49 (by decide) ?_
      refine lv_aload_n hx hb dX3_whole_50 rfl (lv_at hl 0 rfl) ?_
      refine t_get (C := RX3) (T := TX3) (N := 13) X hT m0 g0 rfl rfl 0 (by decide) qw_73 inlX3 rfl dX3_whole_51 (fun v153214 hv153214 ov153214 => ?_)
      obtain rfl : v153214 = .ref x0 := hv153214.symm.trans pf0
      refine t_get (C := RX8) (T := TX8) (N := 8) X hT mx0 gx0 rfl rfl 4 (by decide) qw_227 inlX8 rfl dX3_whole_54 (fun v153215 hv153215 ov153215 => ?_)
      obtain ⟨z153216, rfl, rz153216⟩ := okV_i ov153215
      refine t_cVv (n := 2) (C := RX3) (T := TX3) (N := 13) (As := [.int 4, .int z153216]) (rest := []) X hT (kt432_X3_fail l G tag L F hT.2.2.2 p0 4 z153216 m0 g0 (by decide)) m0 g0 rfl rfl qw_287 qw_288 qw_289 qw_28 qw_290 ⟨rfl, by decide +kernel, by decide +kernel, by decide +kernel⟩ ⟨Nat.le_of_ble_eq_true rfl, Nat.le_of_ble_eq_true rfl⟩ hl rfl rfl (Nat.le_of_ble_eq_true rfl) dX3_whole_57 ⟨Nat.le_of_ble_eq_true rfl, Nat.le_of_ble_eq_true rfl⟩ (fun F H locs hT hz153217 => ?_)
      obtain ⟨yz153217, xz153217_0⟩ := hz153217
      have pf0 := (yz153217.1 _ 0 (Or.inr (by decide)) (Or.inr (by decide))).trans pf0
      have pf1 := (yz153217.1 _ 1 (Or.inr (by decide)) (Or.inr (by decide))).trans pf1
      have pf2 := (yz153217.1 _ 2 (Or.inr (by decide)) (Or.inr (by decide))).trans pf2
      have pf3 := (yz153217.1 _ 0 (Or.inr (by decide)) (Or.inr (by decide))).trans pf3
      have pf4 := (yz153217.1 _ 10 (Or.inr (by decide)) (Or.inr (by decide))).trans pf4
      have pf5 := (yz153217.1 _ 11 (Or.inr (by decide)) (Or.inr (by decide))).trans pf5
      have hv153205 := (yz153217.1 _ 3 (Or.inl (by rw [gx0]; decide)) (Or.inr (by decide))).trans hv153205
      have hv153210 := (yz153217.1 _ 6 (Or.inr (by decide)) (Or.inr (by decide))).trans hv153210
      have hv153215 := (yz153217.1 _ 4 (Or.inr (by decide)) (Or.inl (by rw [gx0]; decide))).trans hv153215
      have hfr : (∀ b j : Nat, (tag b ≠ 24 ∨ j ≠ 2) → (tag b ≠ 24 ∨ j ≠ 3) → (tag b ≠ 24 ∨ j ≠ 4) → (tag b ≠ 24 ∨ j ≠ 5) → (tag b ≠ 24 ∨ j ≠ 6) → (tag b ≠ 24 ∨ j ≠ 7) → (tag b ≠ 25 ∨ j ≠ 3) → (tag b ≠ 25 ∨ j ≠ 4) → fld F b j = fld Fo b j) ∧ EF tag F Fo := ⟨fun b j n24_2 n24_3 n24_4 n24_5 n24_6 n24_7 n25_3 n25_4 => (yz153217.1 b j n25_3 n25_4).trans (hfr.1 b j n24_2 n24_3 n24_4 n24_5 n24_6 n24_7 n25_3 n25_4), fun b j hb => (yz153217.2 b j hb).trans (hfr.2 b j hb)⟩
      obtain ⟨z153218, qz153218, rz153218⟩ := xz153217_0
      refine lv_aload_n hx hb dX3_whole_60 rfl (lv_at hl 0 rfl) ?_
      refine t_get (C := RX3) (T := TX3) (N := 13) X hT m0 g0 rfl rfl 3 (by decide) qw_163 inlX3 rfl dX3_whole_61 (fun v153219 hv153219 ov153219 => ?_)
      obtain rfl : v153219 = .int z153218 := hv153219.symm.trans qz153218
      refine lv_if_eq (tgt := 69) hx hb dX3_whole_64 (by decide) (fun c153220 => ?_) (fun c153220 => ?_)
      · have w153221 := cv_eq (rfl : z153218.toInt = z153218.toInt) (by decide : (0 : Int32).toInt = 0) c153220
        exfalso
        omega
      · have w153222 := cv_ne (rfl : z153218.toInt = z153218.toInt) (by decide : (0 : Int32).toInt = 0) c153220
        refine lv_iload_n hx hb dX3_whole_67 rfl (lv_at hl 1 rfl) ?_
        exact t_iret hQ X hT (⟨(by omega), hfr⟩) (Nat.le_of_ble_eq_true rfl) (Nat.le_of_ble_eq_true rfl) dX3_whole_68
    · have w153223 := cv_nlt (rfl : z153211.toInt = z153211.toInt) (rfl : p1.toInt = p1.toInt) c153212
      refine lv_aload_n hx hb dX3_whole_37 rfl (lv_at hl 0 rfl) ?_
      refine t_get (C := RX3) (T := TX3) (N := 13) X hT m0 g0 rfl rfl 0 (by decide) qw_73 inlX3 rfl dX3_whole_38 (fun v153224 hv153224 ov153224 => ?_)
      obtain rfl : v153224 = .ref x0 := hv153224.symm.trans pf0
      refine t_get (C := RX8) (T := TX8) (N := 8) X hT mx0 gx0 rfl rfl 6 (by decide) qw_322 inlX8 rfl dX3_whole_41 (fun v153225 hv153225 ov153225 => ?_)
      obtain rfl : v153225 = .int z153211 := hv153225.symm.trans hv153210
      refine lv_iload_n hx hb dX3_whole_44 rfl (lv_at hl 2 rfl) ?_
      refine lv_icmp_le (tgt := 60) hx hb dX3_whole_45 (by decide) (fun c153226 => ?_) (fun c153226 => ?_)
      · have w153227 := cv_le (rfl : z153211.toInt = z153211.toInt) (rfl : p2.toInt = p2.toInt) c153226
        refine lv_aload_n hx hb dX3_whole_60 rfl (lv_at hl 0 rfl) ?_
        refine t_get (C := RX3) (T := TX3) (N := 13) X hT m0 g0 rfl rfl 3 (by decide) qw_163 inlX3 rfl dX3_whole_61 (fun v153228 hv153228 ov153228 => ?_)
        obtain ⟨z153229, rfl, rz153229⟩ := okV_i ov153228
        refine lv_if_eq (tgt := 69) hx hb dX3_whole_64 (by decide) (fun c153230 => ?_) (fun c153230 => ?_)
        · have w153231 := cv_eq (rfl : z153229.toInt = z153229.toInt) (by decide : (0 : Int32).toInt = 0) c153230
          refine lv_aload_n hx hb dX3_whole_69 rfl (lv_at hl 0 rfl) ?_
          refine t_get (C := RX3) (T := TX3) (N := 13) X hT m0 g0 rfl rfl 0 (by decide) qw_73 inlX3 rfl dX3_whole_70 (fun v153232 hv153232 ov153232 => ?_)
          obtain rfl : v153232 = .ref x0 := hv153232.symm.trans pf0
          refine t_get (C := RX8) (T := TX8) (N := 8) X hT mx0 gx0 rfl rfl 6 (by decide) qw_322 inlX8 rfl dX3_whole_73 (fun v153233 hv153233 ov153233 => ?_)
          obtain rfl : v153233 = .int z153211 := hv153233.symm.trans hv153210
          refine lv_istore_n (lv' := [(3, .int z153211), (0, .ref p0), (1, .int p1), (2, .int p2)]) hx hb dX3_whole_76 rfl hl (by decide) rfl (fun ls hl => ?_)
          refine lv_aload_n hx hb dX3_whole_77 rfl (lv_at hl 1 rfl) ?_
          refine t_get (C := RX3) (T := TX3) (N := 13) X hT m0 g0 rfl rfl 0 (by decide) qw_73 inlX3 rfl dX3_whole_78 (fun v153234 hv153234 ov153234 => ?_)
          obtain rfl : v153234 = .ref x0 := hv153234.symm.trans pf0
          refine t_cVv (n := 0) (C := RX8) (T := TX8) (N := 8) (As := []) (rest := []) X hT (kt440_X8_advance l G tag L F hT.2.2.2 x0 x3 mx0 gx0 mx3 gx3 pf3) mx0 gx0 rfl rfl qw_305 qw_197 qw_198 qw_72 qw_199 ⟨rfl, by decide +kernel, by decide +kernel, by decide +kernel⟩ ⟨Nat.le_of_ble_eq_true rfl, Nat.le_of_ble_eq_true rfl⟩ hl rfl rfl (Nat.le_of_ble_eq_true rfl) dX3_whole_81 ⟨Nat.le_of_ble_eq_true rfl, Nat.le_of_ble_eq_true rfl⟩ (fun F H locs hT hz153235 => ?_)
          have yz153235 := hz153235
          have pf0 := (yz153235.1 _ 0 (Or.inr (by decide)) (Or.inr (by decide)) (Or.inr (by decide)) (Or.inr (by decide)) (Or.inr (by decide)) (Or.inr (by decide))).trans pf0
          have pf1 := (yz153235.1 _ 1 (Or.inr (by decide)) (Or.inr (by decide)) (Or.inr (by decide)) (Or.inr (by decide)) (Or.inr (by decide)) (Or.inr (by decide))).trans pf1
          have pf2 := (yz153235.1 _ 2 (Or.inl (by rw [g0]; decide)) (Or.inr (by decide)) (Or.inr (by decide)) (Or.inr (by decide)) (Or.inr (by decide)) (Or.inr (by decide))).trans pf2
          have pf3 := (yz153235.1 _ 0 (Or.inr (by decide)) (Or.inr (by decide)) (Or.inr (by decide)) (Or.inr (by decide)) (Or.inr (by decide)) (Or.inr (by decide))).trans pf3
          have pf4 := (yz153235.1 _ 10 (Or.inr (by decide)) (Or.inr (by decide)) (Or.inr (by decide)) (Or.inr (by decide)) (Or.inr (by decide)) (Or.inr (by decide))).trans pf4
          have pf5 := (yz153235.1 _ 11 (Or.inr (by decide)) (Or.inr (by decide)) (Or.inr (by decide)) (Or.inr (by decide)) (Or.inr (by decide)) (Or.inr (by decide))).trans pf5
          have hv153228 := (yz153235.1 _ 3 (Or.inr (by decide)) (Or.inl (by rw [g0]; decide)) (Or.inr (by decide)) (Or.inr (by decide)) (Or.inr (by decide)) (Or.inr (by decide))).trans hv153228
          have hfr : (∀ b j : Nat, (tag b ≠ 24 ∨ j ≠ 2) → (tag b ≠ 24 ∨ j ≠ 3) → (tag b ≠ 24 ∨ j ≠ 4) → (tag b ≠ 24 ∨ j ≠ 5) → (tag b ≠ 24 ∨ j ≠ 6) → (tag b ≠ 24 ∨ j ≠ 7) → (tag b ≠ 25 ∨ j ≠ 3) → (tag b ≠ 25 ∨ j ≠ 4) → fld F b j = fld Fo b j) ∧ EF tag F Fo := ⟨fun b j n24_2 n24_3 n24_4 n24_5 n24_6 n24_7 n25_3 n25_4 => (yz153235.1 b j n24_2 n24_3 n24_4 n24_5 n24_6 n24_7).trans (hfr.1 b j n24_2 n24_3 n24_4 n24_5 n24_6 n24_7 n25_3 n25_4), fun b j hb => (yz153235.2 b j hb).trans (hfr.2 b j hb)⟩
          refine lv_iload_n hx hb dX3_whole_84 rfl (lv_at hl 0 rfl) ?_
          exact t_iret hQ X hT (⟨(by omega), hfr⟩) (Nat.le_of_ble_eq_true rfl) (Nat.le_of_ble_eq_true rfl) dX3_whole_85
        · have w153236 := cv_ne (rfl : z153229.toInt = z153229.toInt) (by decide : (0 : Int32).toInt = 0) c153230
          refine lv_iload_n hx hb dX3_whole_67 rfl (lv_at hl 1 rfl) ?_
          exact t_iret hQ X hT (⟨(by omega), hfr⟩) (Nat.le_of_ble_eq_true rfl) (Nat.le_of_ble_eq_true rfl) dX3_whole_68
      · have w153237 := cv_nle (rfl : z153211.toInt = z153211.toInt) (rfl : p2.toInt = p2.toInt) c153226
        refine lv_aload_n hx hb dX3_whole_48 rfl (lv_at hl 0 rfl) ?_
        refine lv_iconst (v := 4) hx hb dX3_whole_49 (by decide) ?_
        refine lv_aload_n hx hb dX3_whole_50 rfl (lv_at hl 0 rfl) ?_
        refine t_get (C := RX3) (T := TX3) (N := 13) X hT m0 g0 rfl rfl 0 (by decide) qw_73 inlX3 rfl dX3_whole_51 (fun v153238 hv153238 ov153238 => ?_)
        obtain rfl : v153238 = .ref x0 := hv153238.symm.trans pf0
        refine t_get (C := RX8) (T := TX8) (N := 8) X hT mx0 gx0 rfl rfl 4 (by decide) qw_227 inlX8 rfl dX3_whole_54 (fun v153239 hv153239 ov153239 => ?_)
        obtain ⟨z153240, rfl, rz153240⟩ := okV_i ov153239
        refine t_cVv (n := 2) (C := RX3) (T := TX3) (N := 13) (As := [.int 4, .int z153240]) (rest := []) X hT (kt432_X3_fail l G tag L F hT.2.2.2 p0 4 z153240 m0 g0 (by decide)) m0 g0 rfl rfl qw_287 qw_288 qw_289 qw_28 qw_290 ⟨rfl, by decide +kernel, by decide +kernel, by decide +kernel⟩ ⟨Nat.le_of_ble_eq_true rfl, Nat.le_of_ble_eq_true rfl⟩ hl rfl rfl (Nat.le_of_ble_eq_true rfl) dX3_whole_57 ⟨Nat.le_of_ble_eq_true rfl, Nat.le_of_ble_eq_true rfl⟩ (fun F H locs hT hz153241 => ?_)
        obtain ⟨yz153241, xz153241_0⟩ := hz153241
        have pf0 := (yz153241.1 _ 0 (Or.inr (by decide)) (Or.inr (by decide))).trans pf0
        have pf1 := (yz153241.1 _ 1 (Or.inr (by decide)) (Or.inr (by decide))).trans pf1
        have pf2 := (yz153241.1 _ 2 (Or.inr (by decide)) (Or.inr (by decide))).trans pf2
        have pf3 := (yz153241.1 _ 0 (Or.inr (by decide)) (Or.inr (by decide))).trans pf3
        have pf4 := (yz153241.1 _ 10 (Or.inr (by decide)) (Or.inr (by decide))).trans pf4
        have pf5 := (yz153241.1 _ 11 (Or.inr (by decide)) (Or.inr (by decide))).trans pf5
        have hv153205 := (yz153241.1 _ 3 (Or.inl (by rw [gx0]; decide)) (Or.inr (by decide))).trans hv153205
        have hv153210 := (yz153241.1 _ 6 (Or.inr (by decide)) (Or.inr (by decide))).trans hv153210
        have hv153239 := (yz153241.1 _ 4 (Or.inr (by decide)) (Or.inl (by rw [gx0]; decide))).trans hv153239
        have hfr : (∀ b j : Nat, (tag b ≠ 24 ∨ j ≠ 2) → (tag b ≠ 24 ∨ j ≠ 3) → (tag b ≠ 24 ∨ j ≠ 4) → (tag b ≠ 24 ∨ j ≠ 5) → (tag b ≠ 24 ∨ j ≠ 6) → (tag b ≠ 24 ∨ j ≠ 7) → (tag b ≠ 25 ∨ j ≠ 3) → (tag b ≠ 25 ∨ j ≠ 4) → fld F b j = fld Fo b j) ∧ EF tag F Fo := ⟨fun b j n24_2 n24_3 n24_4 n24_5 n24_6 n24_7 n25_3 n25_4 => (yz153241.1 b j n25_3 n25_4).trans (hfr.1 b j n24_2 n24_3 n24_4 n24_5 n24_6 n24_7 n25_3 n25_4), fun b j hb => (yz153241.2 b j hb).trans (hfr.2 b j hb)⟩
        obtain ⟨z153242, qz153242, rz153242⟩ := xz153241_0
        refine lv_aload_n hx hb dX3_whole_60 rfl (lv_at hl 0 rfl) ?_
        refine t_get (C := RX3) (T := TX3) (N := 13) X hT m0 g0 rfl rfl 3 (by decide) qw_163 inlX3 rfl dX3_whole_61 (fun v153243 hv153243 ov153243 => ?_)
        obtain rfl : v153243 = .int z153242 := hv153243.symm.trans qz153242
        refine lv_if_eq (tgt := 69) hx hb dX3_whole_64 (by decide) (fun c153244 => ?_) (fun c153244 => ?_)
        · have w153245 := cv_eq (rfl : z153242.toInt = z153242.toInt) (by decide : (0 : Int32).toInt = 0) c153244
          exfalso
          omega
        · have w153246 := cv_ne (rfl : z153242.toInt = z153242.toInt) (by decide : (0 : Int32).toInt = 0) c153244
          refine lv_iload_n hx hb dX3_whole_67 rfl (lv_at hl 1 rfl) ?_
          exact t_iret hQ X hT (⟨(by omega), hfr⟩) (Nat.le_of_ble_eq_true rfl) (Nat.le_of_ble_eq_true rfl) dX3_whole_68
  · have w153247 := cv_ne (rfl : z153206.toInt = z153206.toInt) (by decide : (2 : Int32).toInt = 2) c153207
    refine lv_aload_n hx hb dX3_whole_11 rfl (lv_at hl 0 rfl) ?_
    refine lv_iconst (v := 1) hx hb dX3_whole_12 (by decide) ?_
    refine lv_aload_n hx hb dX3_whole_13 rfl (lv_at hl 0 rfl) ?_
    refine t_get (C := RX3) (T := TX3) (N := 13) X hT m0 g0 rfl rfl 0 (by decide) qw_73 inlX3 rfl dX3_whole_14 (fun v153248 hv153248 ov153248 => ?_)
    obtain rfl : v153248 = .ref x0 := hv153248.symm.trans pf0
    refine t_get (C := RX8) (T := TX8) (N := 8) X hT mx0 gx0 rfl rfl 4 (by decide) qw_227 inlX8 rfl dX3_whole_17 (fun v153249 hv153249 ov153249 => ?_)
    obtain ⟨z153250, rfl, rz153250⟩ := okV_i ov153249
    refine t_cVv (n := 2) (C := RX3) (T := TX3) (N := 13) (As := [.int 1, .int z153250]) (rest := []) X hT (kt432_X3_fail l G tag L F hT.2.2.2 p0 1 z153250 m0 g0 (by decide)) m0 g0 rfl rfl qw_287 qw_288 qw_289 qw_28 qw_290 ⟨rfl, by decide +kernel, by decide +kernel, by decide +kernel⟩ ⟨Nat.le_of_ble_eq_true rfl, Nat.le_of_ble_eq_true rfl⟩ hl rfl rfl (Nat.le_of_ble_eq_true rfl) dX3_whole_20 ⟨Nat.le_of_ble_eq_true rfl, Nat.le_of_ble_eq_true rfl⟩ (fun F H locs hT hz153251 => ?_)
    obtain ⟨yz153251, xz153251_0⟩ := hz153251
    have pf0 := (yz153251.1 _ 0 (Or.inr (by decide)) (Or.inr (by decide))).trans pf0
    have pf1 := (yz153251.1 _ 1 (Or.inr (by decide)) (Or.inr (by decide))).trans pf1
    have pf2 := (yz153251.1 _ 2 (Or.inr (by decide)) (Or.inr (by decide))).trans pf2
    have pf3 := (yz153251.1 _ 0 (Or.inr (by decide)) (Or.inr (by decide))).trans pf3
    have pf4 := (yz153251.1 _ 10 (Or.inr (by decide)) (Or.inr (by decide))).trans pf4
    have pf5 := (yz153251.1 _ 11 (Or.inr (by decide)) (Or.inr (by decide))).trans pf5
    have hv153205 := (yz153251.1 _ 3 (Or.inl (by rw [gx0]; decide)) (Or.inr (by decide))).trans hv153205
    have hv153249 := (yz153251.1 _ 4 (Or.inr (by decide)) (Or.inl (by rw [gx0]; decide))).trans hv153249
    have hfr : (∀ b j : Nat, (tag b ≠ 24 ∨ j ≠ 2) → (tag b ≠ 24 ∨ j ≠ 3) → (tag b ≠ 24 ∨ j ≠ 4) → (tag b ≠ 24 ∨ j ≠ 5) → (tag b ≠ 24 ∨ j ≠ 6) → (tag b ≠ 24 ∨ j ≠ 7) → (tag b ≠ 25 ∨ j ≠ 3) → (tag b ≠ 25 ∨ j ≠ 4) → fld F b j = fld Fo b j) ∧ EF tag F Fo := ⟨fun b j n24_2 n24_3 n24_4 n24_5 n24_6 n24_7 n25_3 n25_4 => (yz153251.1 b j n25_3 n25_4).trans (hfr.1 b j n24_2 n24_3 n24_4 n24_5 n24_6 n24_7 n25_3 n25_4), fun b j hb => (yz153251.2 b j hb).trans (hfr.2 b j hb)⟩
    obtain ⟨z153252, qz153252, rz153252⟩ := xz153251_0
    refine lv_goto (tgt := 60) hx hb dX3_whole_23 (by decide) ?_
    refine lv_aload_n hx hb dX3_whole_60 rfl (lv_at hl 0 rfl) ?_
    refine t_get (C := RX3) (T := TX3) (N := 13) X hT m0 g0 rfl rfl 3 (by decide) qw_163 inlX3 rfl dX3_whole_61 (fun v153253 hv153253 ov153253 => ?_)
    obtain rfl : v153253 = .int z153252 := hv153253.symm.trans qz153252
    refine lv_if_eq (tgt := 69) hx hb dX3_whole_64 (by decide) (fun c153254 => ?_) (fun c153254 => ?_)
    · have w153255 := cv_eq (rfl : z153252.toInt = z153252.toInt) (by decide : (0 : Int32).toInt = 0) c153254
      exfalso
      omega
    · have w153256 := cv_ne (rfl : z153252.toInt = z153252.toInt) (by decide : (0 : Int32).toInt = 0) c153254
      refine lv_iload_n hx hb dX3_whole_67 rfl (lv_at hl 1 rfl) ?_
      exact t_iret hQ X hT (⟨(by omega), hfr⟩) (Nat.le_of_ble_eq_true rfl) (Nat.le_of_ble_eq_true rfl) dX3_whole_68
set_option maxHeartbeats 4000000 in
set_option maxRecDepth 100000 in
theorem kt456_X3_readHouse (l : Launch) (G : KG) (tag : Nat → Nat) (L : List Nat) (Fo : Nat → va_E) (ho : okT G ttC tag L Fo) (p0 : Nat) (x0 : Nat) (x1 : Nat) (x2 : Nat) (x3 : Nat) (x4 : Nat) (x5 : Nat) (x6 : Int32) (m0 : p0 ∈ L) (g0 : tag p0 = 25) (mx0 : x0 ∈ L) (gx0 : tag x0 = 24) (pf0 : fld Fo p0 0 = .ref x0) (mx1 : x1 ∈ L) (gx1 : tag x1 = 18) (pf1 : fld Fo p0 1 = .ref x1) (mx2 : x2 ∈ L) (gx2 : tag x2 = 19) (pf2 : fld Fo p0 2 = .ref x2) (mx3 : x3 ∈ L) (gx3 : tag x3 = 1) (pf3 : fld Fo x0 0 = .ref x3) (mx4 : x4 ∈ L) (gx4 : tag x4 = 14) (pf4 : fld Fo p0 10 = .ref x4) (mx5 : x5 ∈ L) (gx5 : tag x5 = 15) (pf5 : fld Fo p0 11 = .ref x5) (hx6 : 0 ≤ x6.toInt ∧ x6.toInt ≤ 3) (pf6 : fld Fo x1 10 = .int x6) (hrel : NSR Fo x4 x5) : TMv l yX3_readHouse cX3_readHouse 7 { frames := 7, cells := 0, slots := 0, locals := 150 } G ttC tag L Fo [.ref p0] (fun F1 => (∀ b j : Nat, (tag b ≠ 18 ∨ j ≠ 10) → (tag b ≠ 24 ∨ j ≠ 2) → (tag b ≠ 24 ∨ j ≠ 3) → (tag b ≠ 24 ∨ j ≠ 4) → (tag b ≠ 24 ∨ j ≠ 5) → (tag b ≠ 24 ∨ j ≠ 6) → (tag b ≠ 24 ∨ j ≠ 7) → (tag b ≠ 25 ∨ j ≠ 3) → (tag b ≠ 25 ∨ j ≠ 4) → (tag b ≠ 25 ∨ j ≠ 12) → fld F1 b j = fld Fo b j) ∧ (NSR F1 x4 x5)) := by
  refine t_bodyv (y := yX3_readHouse) (cd := cX3_readHouse) (mL := 7) (rm := { frames := 7, cells := 0, slots := 0, locals := 150 }) (av := [.ref p0]) (by decide) (Nat.le_of_ble_eq_true rfl) ho ?_
  intro p e s m args below meth c ls A Q hQ X hT hl
  have hx := X.1.1
  have hb := X.1.2.1
  have hl : lv_has ls 7 [(0, .ref p0)] := hl
  obtain ⟨F, hFo⟩ : ∃ F : Nat → va_E, F = Fo := ⟨_, rfl⟩
  rw [← hFo] at hT pf0 pf1 pf2 pf3 pf4 pf5 pf6 hrel
  have hfr : ∀ b j : Nat, (tag b ≠ 18 ∨ j ≠ 10) → (tag b ≠ 24 ∨ j ≠ 2) → (tag b ≠ 24 ∨ j ≠ 3) → (tag b ≠ 24 ∨ j ≠ 4) → (tag b ≠ 24 ∨ j ≠ 5) → (tag b ≠ 24 ∨ j ≠ 6) → (tag b ≠ 24 ∨ j ≠ 7) → (tag b ≠ 25 ∨ j ≠ 3) → (tag b ≠ 25 ∨ j ≠ 4) → (tag b ≠ 25 ∨ j ≠ 12) → fld F b j = fld Fo b j := by
    rw [hFo]
    intros
    rfl
  refine lv_aload_n hx hb dX3_readHouse_0 rfl (lv_at hl 0 rfl) ?_
  refine t_get (C := RX3) (T := TX3) (N := 13) X hT m0 g0 rfl rfl 1 (by decide) qw_161 inlX3 rfl dX3_readHouse_1 (fun v154354 hv154354 ov154354 => ?_)
  obtain rfl : v154354 = .ref x1 := hv154354.symm.trans pf1
  refine t_get (C := RX1) (T := TX1) (N := 20) X hT mx1 gx1 rfl rfl 10 (by decide) qw_172 inlX1 rfl dX3_readHouse_4 (fun v154355 hv154355 ov154355 => ?_)
  obtain rfl : v154355 = .int x6 := hv154355.symm.trans pf6
  refine lv_istore_n (lv' := [(1, .int x6), (0, .ref p0)]) hx hb dX3_readHouse_7 rfl hl (by decide) rfl (fun ls hl => ?_)
  refine lv_aload_n hx hb dX3_readHouse_8 rfl (lv_at hl 1 rfl) ?_
  refine lv_iconst (v := 4) hx hb dX3_readHouse_9 (by decide) ?_
  refine lv_iload_n hx hb dX3_readHouse_10 rfl (lv_at hl 0 rfl) ?_
  refine t_cVv (n := 2) (C := RX3) (T := TX3) (N := 13) (As := [.int 4, .int x6]) (rest := []) X hT (kt449_X3_newName l G tag L F hT.2.2.2 p0 4 x6 x0 x1 x2 x3 x4 x5 m0 g0 (by decide) (by omega) mx0 gx0 pf0 mx1 gx1 pf1 mx2 gx2 pf2 mx3 gx3 pf3 mx4 gx4 pf4 mx5 gx5 pf5 hrel) m0 g0 rfl rfl qw_356 qw_357 qw_358 qw_28 qw_359 ⟨rfl, by decide +kernel, by decide +kernel, by decide +kernel⟩ ⟨Nat.le_of_ble_eq_true rfl, Nat.le_of_ble_eq_true rfl⟩ hl rfl rfl (Nat.le_of_ble_eq_true rfl) dX3_readHouse_11 ⟨Nat.le_of_ble_eq_true rfl, Nat.le_of_ble_eq_true rfl⟩ (fun F H locs hT hz154356 => ?_)
  obtain ⟨yz154356, hrel⟩ := hz154356
  have pf0 := (yz154356 _ 0 (Or.inr (by decide)) (Or.inr (by decide)) (Or.inr (by decide)) (Or.inr (by decide)) (Or.inr (by decide)) (Or.inr (by decide)) (Or.inr (by decide)) (Or.inr (by decide)) (Or.inr (by decide))).trans pf0
  have pf1 := (yz154356 _ 1 (Or.inr (by decide)) (Or.inr (by decide)) (Or.inr (by decide)) (Or.inr (by decide)) (Or.inr (by decide)) (Or.inr (by decide)) (Or.inr (by decide)) (Or.inr (by decide)) (Or.inr (by decide))).trans pf1
  have pf2 := (yz154356 _ 2 (Or.inl (by rw [g0]; decide)) (Or.inr (by decide)) (Or.inr (by decide)) (Or.inr (by decide)) (Or.inr (by decide)) (Or.inr (by decide)) (Or.inr (by decide)) (Or.inr (by decide)) (Or.inr (by decide))).trans pf2
  have pf3 := (yz154356 _ 0 (Or.inr (by decide)) (Or.inr (by decide)) (Or.inr (by decide)) (Or.inr (by decide)) (Or.inr (by decide)) (Or.inr (by decide)) (Or.inr (by decide)) (Or.inr (by decide)) (Or.inr (by decide))).trans pf3
  have pf4 := (yz154356 _ 10 (Or.inr (by decide)) (Or.inr (by decide)) (Or.inr (by decide)) (Or.inr (by decide)) (Or.inr (by decide)) (Or.inr (by decide)) (Or.inr (by decide)) (Or.inr (by decide)) (Or.inr (by decide))).trans pf4
  have pf5 := (yz154356 _ 11 (Or.inr (by decide)) (Or.inr (by decide)) (Or.inr (by decide)) (Or.inr (by decide)) (Or.inr (by decide)) (Or.inr (by decide)) (Or.inr (by decide)) (Or.inr (by decide)) (Or.inr (by decide))).trans pf5
  have pf6 := (yz154356 _ 10 (Or.inr (by decide)) (Or.inr (by decide)) (Or.inr (by decide)) (Or.inr (by decide)) (Or.inr (by decide)) (Or.inr (by decide)) (Or.inr (by decide)) (Or.inr (by decide)) (Or.inr (by decide))).trans pf6
  have hfr : ∀ b j : Nat, (tag b ≠ 18 ∨ j ≠ 10) → (tag b ≠ 24 ∨ j ≠ 2) → (tag b ≠ 24 ∨ j ≠ 3) → (tag b ≠ 24 ∨ j ≠ 4) → (tag b ≠ 24 ∨ j ≠ 5) → (tag b ≠ 24 ∨ j ≠ 6) → (tag b ≠ 24 ∨ j ≠ 7) → (tag b ≠ 25 ∨ j ≠ 3) → (tag b ≠ 25 ∨ j ≠ 4) → (tag b ≠ 25 ∨ j ≠ 12) → fld F b j = fld Fo b j := fun b j n18_10 n24_2 n24_3 n24_4 n24_5 n24_6 n24_7 n25_3 n25_4 n25_12 => (yz154356 b j n24_2 n24_3 n24_4 n24_5 n24_6 n24_7 n25_3 n25_4 n25_12).trans (hfr b j n18_10 n24_2 n24_3 n24_4 n24_5 n24_6 n24_7 n25_3 n25_4 n25_12)
  refine lv_aload_n hx hb dX3_readHouse_14 rfl (lv_at hl 1 rfl) ?_
  refine m_ldcKw X 30 rfl dX3_readHouse_15 ?_
  refine t_cVv (n := 1) (C := RX3) (T := TX3) (N := 13) (As := [.ref (G.2 (100 + 30))]) (rest := []) X hT (kt450_X3_word l G tag L F hT.2.2.2 p0 30 x0 x1 x2 x3 x4 x5 m0 g0 (by decide) mx0 gx0 pf0 mx1 gx1 pf1 mx2 gx2 pf2 mx3 gx3 pf3 mx4 gx4 pf4 mx5 gx5 pf5) m0 g0 rfl rfl qw_314 qw_315 qw_316 qw_28 qw_317 ⟨rfl, by decide +kernel, by decide +kernel, by decide +kernel⟩ ⟨Nat.le_of_ble_eq_true rfl, Nat.le_of_ble_eq_true rfl⟩ hl rfl rfl (Nat.le_of_ble_eq_true rfl) dX3_readHouse_18 ⟨Nat.le_of_ble_eq_true rfl, Nat.le_of_ble_eq_true rfl⟩ (fun F H locs hT hz154357 => ?_)
  have yz154357 := hz154357
  have pf0 := (yz154357.1 _ 0 (Or.inr (by decide)) (Or.inr (by decide)) (Or.inr (by decide)) (Or.inr (by decide)) (Or.inr (by decide)) (Or.inr (by decide)) (Or.inr (by decide)) (Or.inr (by decide))).trans pf0
  have pf1 := (yz154357.1 _ 1 (Or.inr (by decide)) (Or.inr (by decide)) (Or.inr (by decide)) (Or.inr (by decide)) (Or.inr (by decide)) (Or.inr (by decide)) (Or.inr (by decide)) (Or.inr (by decide))).trans pf1
  have pf2 := (yz154357.1 _ 2 (Or.inl (by rw [g0]; decide)) (Or.inr (by decide)) (Or.inr (by decide)) (Or.inr (by decide)) (Or.inr (by decide)) (Or.inr (by decide)) (Or.inr (by decide)) (Or.inr (by decide))).trans pf2
  have pf3 := (yz154357.1 _ 0 (Or.inr (by decide)) (Or.inr (by decide)) (Or.inr (by decide)) (Or.inr (by decide)) (Or.inr (by decide)) (Or.inr (by decide)) (Or.inr (by decide)) (Or.inr (by decide))).trans pf3
  have pf4 := (yz154357.1 _ 10 (Or.inr (by decide)) (Or.inr (by decide)) (Or.inr (by decide)) (Or.inr (by decide)) (Or.inr (by decide)) (Or.inr (by decide)) (Or.inr (by decide)) (Or.inr (by decide))).trans pf4
  have pf5 := (yz154357.1 _ 11 (Or.inr (by decide)) (Or.inr (by decide)) (Or.inr (by decide)) (Or.inr (by decide)) (Or.inr (by decide)) (Or.inr (by decide)) (Or.inr (by decide)) (Or.inr (by decide))).trans pf5
  have pf6 := (yz154357.1 _ 10 (Or.inr (by decide)) (Or.inr (by decide)) (Or.inr (by decide)) (Or.inr (by decide)) (Or.inr (by decide)) (Or.inr (by decide)) (Or.inr (by decide)) (Or.inr (by decide))).trans pf6
  have hfr : ∀ b j : Nat, (tag b ≠ 18 ∨ j ≠ 10) → (tag b ≠ 24 ∨ j ≠ 2) → (tag b ≠ 24 ∨ j ≠ 3) → (tag b ≠ 24 ∨ j ≠ 4) → (tag b ≠ 24 ∨ j ≠ 5) → (tag b ≠ 24 ∨ j ≠ 6) → (tag b ≠ 24 ∨ j ≠ 7) → (tag b ≠ 25 ∨ j ≠ 3) → (tag b ≠ 25 ∨ j ≠ 4) → (tag b ≠ 25 ∨ j ≠ 12) → fld F b j = fld Fo b j := fun b j n18_10 n24_2 n24_3 n24_4 n24_5 n24_6 n24_7 n25_3 n25_4 n25_12 => (yz154357.1 b j n24_2 n24_3 n24_4 n24_5 n24_6 n24_7 n25_3 n25_4).trans (hfr b j n18_10 n24_2 n24_3 n24_4 n24_5 n24_6 n24_7 n25_3 n25_4 n25_12)
  have hrel := nsr_of (fun j => yz154357.2 _ j (Or.inl gx4)) (fun j => yz154357.2 _ j (Or.inr gx5)) hrel
  refine lv_aload_n hx hb dX3_readHouse_21 rfl (lv_at hl 1 rfl) ?_
  refine lv_iconst (v := 0) hx hb dX3_readHouse_22 (by decide) ?_
  refine lv_aload_n hx hb dX3_readHouse_23 rfl (lv_at hl 1 rfl) ?_
  refine t_get (C := RX3) (T := TX3) (N := 13) X hT m0 g0 rfl rfl 1 (by decide) qw_161 inlX3 rfl dX3_readHouse_24 (fun v154358 hv154358 ov154358 => ?_)
  obtain rfl : v154358 = .ref x1 := hv154358.symm.trans pf1
  refine t_get (C := RX1) (T := TX1) (N := 20) X hT mx1 gx1 rfl rfl 0 (by decide) qw_310 inlX1 rfl dX3_readHouse_27 (fun v154359 hv154359 ov154359 => ?_)
  obtain ⟨z154360, rfl, rz154360⟩ := okV_i ov154359
  refine lv_iconst (v := 1) hx hb dX3_readHouse_30 (by decide) ?_
  refine lv_isub hx hb dX3_readHouse_31 ?_
  refine lv_topi (fun z154361 ez154361 => ?_)
  have hz154361 : z154361.toInt = z154360.toInt - 1 := ar_sub ez154361 (rfl : z154360.toInt = z154360.toInt) (by decide : (1 : Int32).toInt = 1) (by omega) (by omega)
  have rz154361 : (-1) ≤ z154361.toInt ∧ z154361.toInt ≤ 11 := by omega
  refine t_cVi (n := 2) (C := RX3) (T := TX3) (N := 13) (As := [.int 0, .int z154361]) (rest := []) X hT (kt451_X3_whole l G tag L F hT.2.2.2 p0 0 z154361 x0 x1 x2 x3 x4 x5 m0 g0 (by decide) (by omega) mx0 gx0 pf0 mx1 gx1 pf1 mx2 gx2 pf2 mx3 gx3 pf3 mx4 gx4 pf4 mx5 gx5 pf5) m0 g0 rfl rfl qw_318 qw_319 qw_320 qw_28 qw_321 ⟨rfl, by decide +kernel, by decide +kernel, by decide +kernel⟩ ⟨Nat.le_of_ble_eq_true rfl, Nat.le_of_ble_eq_true rfl⟩ hl rfl rfl (Nat.le_of_ble_eq_true rfl) dX3_readHouse_32 ⟨Nat.le_of_ble_eq_true rfl, Nat.le_of_ble_eq_true rfl⟩ (fun z154362 F H locs hT hz154362 => ?_)
  obtain ⟨hz154362, yz154362⟩ := hz154362
  have pf0 := (yz154362.1 _ 0 (Or.inr (by decide)) (Or.inr (by decide)) (Or.inr (by decide)) (Or.inr (by decide)) (Or.inr (by decide)) (Or.inr (by decide)) (Or.inr (by decide)) (Or.inr (by decide))).trans pf0
  have pf1 := (yz154362.1 _ 1 (Or.inr (by decide)) (Or.inr (by decide)) (Or.inr (by decide)) (Or.inr (by decide)) (Or.inr (by decide)) (Or.inr (by decide)) (Or.inr (by decide)) (Or.inr (by decide))).trans pf1
  have pf2 := (yz154362.1 _ 2 (Or.inl (by rw [g0]; decide)) (Or.inr (by decide)) (Or.inr (by decide)) (Or.inr (by decide)) (Or.inr (by decide)) (Or.inr (by decide)) (Or.inr (by decide)) (Or.inr (by decide))).trans pf2
  have pf3 := (yz154362.1 _ 0 (Or.inr (by decide)) (Or.inr (by decide)) (Or.inr (by decide)) (Or.inr (by decide)) (Or.inr (by decide)) (Or.inr (by decide)) (Or.inr (by decide)) (Or.inr (by decide))).trans pf3
  have pf4 := (yz154362.1 _ 10 (Or.inr (by decide)) (Or.inr (by decide)) (Or.inr (by decide)) (Or.inr (by decide)) (Or.inr (by decide)) (Or.inr (by decide)) (Or.inr (by decide)) (Or.inr (by decide))).trans pf4
  have pf5 := (yz154362.1 _ 11 (Or.inr (by decide)) (Or.inr (by decide)) (Or.inr (by decide)) (Or.inr (by decide)) (Or.inr (by decide)) (Or.inr (by decide)) (Or.inr (by decide)) (Or.inr (by decide))).trans pf5
  have pf6 := (yz154362.1 _ 10 (Or.inr (by decide)) (Or.inr (by decide)) (Or.inr (by decide)) (Or.inr (by decide)) (Or.inr (by decide)) (Or.inr (by decide)) (Or.inr (by decide)) (Or.inr (by decide))).trans pf6
  have hv154359 := (yz154362.1 _ 0 (Or.inr (by decide)) (Or.inr (by decide)) (Or.inr (by decide)) (Or.inr (by decide)) (Or.inr (by decide)) (Or.inr (by decide)) (Or.inr (by decide)) (Or.inr (by decide))).trans hv154359
  have hfr : ∀ b j : Nat, (tag b ≠ 18 ∨ j ≠ 10) → (tag b ≠ 24 ∨ j ≠ 2) → (tag b ≠ 24 ∨ j ≠ 3) → (tag b ≠ 24 ∨ j ≠ 4) → (tag b ≠ 24 ∨ j ≠ 5) → (tag b ≠ 24 ∨ j ≠ 6) → (tag b ≠ 24 ∨ j ≠ 7) → (tag b ≠ 25 ∨ j ≠ 3) → (tag b ≠ 25 ∨ j ≠ 4) → (tag b ≠ 25 ∨ j ≠ 12) → fld F b j = fld Fo b j := fun b j n18_10 n24_2 n24_3 n24_4 n24_5 n24_6 n24_7 n25_3 n25_4 n25_12 => (yz154362.1 b j n24_2 n24_3 n24_4 n24_5 n24_6 n24_7 n25_3 n25_4).trans (hfr b j n18_10 n24_2 n24_3 n24_4 n24_5 n24_6 n24_7 n25_3 n25_4 n25_12)
  have hrel := nsr_of (fun j => yz154362.2 _ j (Or.inl gx4)) (fun j => yz154362.2 _ j (Or.inr gx5)) hrel
  refine lv_istore_n (lv' := [(2, .int z154362), (1, .int x6), (0, .ref p0)]) hx hb dX3_readHouse_35 rfl hl (by decide) rfl (fun ls hl => ?_)
  refine lv_aload_n hx hb dX3_readHouse_36 rfl (lv_at hl 2 rfl) ?_
  refine lv_bipush (v := 44) hx hb dX3_readHouse_37 (by decide) ?_
  refine t_cVv (n := 1) (C := RX3) (T := TX3) (N := 13) (As := [.int 44]) (rest := []) X hT (kt452_X3_sign l G tag L F hT.2.2.2 p0 44 x0 x1 x2 x3 x4 x5 m0 g0 mx0 gx0 pf0 mx1 gx1 pf1 mx2 gx2 pf2 mx3 gx3 pf3 mx4 gx4 pf4 mx5 gx5 pf5) m0 g0 rfl rfl qw_340 qw_341 qw_342 qw_28 qw_343 ⟨rfl, by decide +kernel, by decide +kernel, by decide +kernel⟩ ⟨Nat.le_of_ble_eq_true rfl, Nat.le_of_ble_eq_true rfl⟩ hl rfl rfl (Nat.le_of_ble_eq_true rfl) dX3_readHouse_39 ⟨Nat.le_of_ble_eq_true rfl, Nat.le_of_ble_eq_true rfl⟩ (fun F H locs hT hz154363 => ?_)
  have yz154363 := hz154363
  have pf0 := (yz154363.1 _ 0 (Or.inr (by decide)) (Or.inr (by decide)) (Or.inr (by decide)) (Or.inr (by decide)) (Or.inr (by decide)) (Or.inr (by decide)) (Or.inr (by decide)) (Or.inr (by decide))).trans pf0
  have pf1 := (yz154363.1 _ 1 (Or.inr (by decide)) (Or.inr (by decide)) (Or.inr (by decide)) (Or.inr (by decide)) (Or.inr (by decide)) (Or.inr (by decide)) (Or.inr (by decide)) (Or.inr (by decide))).trans pf1
  have pf2 := (yz154363.1 _ 2 (Or.inl (by rw [g0]; decide)) (Or.inr (by decide)) (Or.inr (by decide)) (Or.inr (by decide)) (Or.inr (by decide)) (Or.inr (by decide)) (Or.inr (by decide)) (Or.inr (by decide))).trans pf2
  have pf3 := (yz154363.1 _ 0 (Or.inr (by decide)) (Or.inr (by decide)) (Or.inr (by decide)) (Or.inr (by decide)) (Or.inr (by decide)) (Or.inr (by decide)) (Or.inr (by decide)) (Or.inr (by decide))).trans pf3
  have pf4 := (yz154363.1 _ 10 (Or.inr (by decide)) (Or.inr (by decide)) (Or.inr (by decide)) (Or.inr (by decide)) (Or.inr (by decide)) (Or.inr (by decide)) (Or.inr (by decide)) (Or.inr (by decide))).trans pf4
  have pf5 := (yz154363.1 _ 11 (Or.inr (by decide)) (Or.inr (by decide)) (Or.inr (by decide)) (Or.inr (by decide)) (Or.inr (by decide)) (Or.inr (by decide)) (Or.inr (by decide)) (Or.inr (by decide))).trans pf5
  have pf6 := (yz154363.1 _ 10 (Or.inr (by decide)) (Or.inr (by decide)) (Or.inr (by decide)) (Or.inr (by decide)) (Or.inr (by decide)) (Or.inr (by decide)) (Or.inr (by decide)) (Or.inr (by decide))).trans pf6
  have hv154359 := (yz154363.1 _ 0 (Or.inr (by decide)) (Or.inr (by decide)) (Or.inr (by decide)) (Or.inr (by decide)) (Or.inr (by decide)) (Or.inr (by decide)) (Or.inr (by decide)) (Or.inr (by decide))).trans hv154359
  have hfr : ∀ b j : Nat, (tag b ≠ 18 ∨ j ≠ 10) → (tag b ≠ 24 ∨ j ≠ 2) → (tag b ≠ 24 ∨ j ≠ 3) → (tag b ≠ 24 ∨ j ≠ 4) → (tag b ≠ 24 ∨ j ≠ 5) → (tag b ≠ 24 ∨ j ≠ 6) → (tag b ≠ 24 ∨ j ≠ 7) → (tag b ≠ 25 ∨ j ≠ 3) → (tag b ≠ 25 ∨ j ≠ 4) → (tag b ≠ 25 ∨ j ≠ 12) → fld F b j = fld Fo b j := fun b j n18_10 n24_2 n24_3 n24_4 n24_5 n24_6 n24_7 n25_3 n25_4 n25_12 => (yz154363.1 b j n24_2 n24_3 n24_4 n24_5 n24_6 n24_7 n25_3 n25_4).trans (hfr b j n18_10 n24_2 n24_3 n24_4 n24_5 n24_6 n24_7 n25_3 n25_4 n25_12)
  have hrel := nsr_of (fun j => yz154363.2 _ j (Or.inl gx4)) (fun j => yz154363.2 _ j (Or.inr gx5)) hrel
  refine lv_aload_n hx hb dX3_readHouse_42 rfl (lv_at hl 2 rfl) ?_
  refine lv_iconst (v := 0) hx hb dX3_readHouse_43 (by decide) ?_
  refine lv_aload_n hx hb dX3_readHouse_44 rfl (lv_at hl 2 rfl) ?_
  refine t_get (C := RX3) (T := TX3) (N := 13) X hT m0 g0 rfl rfl 1 (by decide) qw_161 inlX3 rfl dX3_readHouse_45 (fun v154364 hv154364 ov154364 => ?_)
  obtain rfl : v154364 = .ref x1 := hv154364.symm.trans pf1
  refine t_get (C := RX1) (T := TX1) (N := 20) X hT mx1 gx1 rfl rfl 1 (by decide) qw_311 inlX1 rfl dX3_readHouse_48 (fun v154365 hv154365 ov154365 => ?_)
  obtain ⟨z154366, rfl, rz154366⟩ := okV_i ov154365
  refine lv_iconst (v := 1) hx hb dX3_readHouse_51 (by decide) ?_
  refine lv_isub hx hb dX3_readHouse_52 ?_
  refine lv_topi (fun z154367 ez154367 => ?_)
  have hz154367 : z154367.toInt = z154366.toInt - 1 := ar_sub ez154367 (rfl : z154366.toInt = z154366.toInt) (by decide : (1 : Int32).toInt = 1) (by omega) (by omega)
  have rz154367 : (-1) ≤ z154367.toInt ∧ z154367.toInt ≤ 11 := by omega
  refine t_cVi (n := 2) (C := RX3) (T := TX3) (N := 13) (As := [.int 0, .int z154367]) (rest := []) X hT (kt451_X3_whole l G tag L F hT.2.2.2 p0 0 z154367 x0 x1 x2 x3 x4 x5 m0 g0 (by decide) (by omega) mx0 gx0 pf0 mx1 gx1 pf1 mx2 gx2 pf2 mx3 gx3 pf3 mx4 gx4 pf4 mx5 gx5 pf5) m0 g0 rfl rfl qw_318 qw_319 qw_320 qw_28 qw_321 ⟨rfl, by decide +kernel, by decide +kernel, by decide +kernel⟩ ⟨Nat.le_of_ble_eq_true rfl, Nat.le_of_ble_eq_true rfl⟩ hl rfl rfl (Nat.le_of_ble_eq_true rfl) dX3_readHouse_53 ⟨Nat.le_of_ble_eq_true rfl, Nat.le_of_ble_eq_true rfl⟩ (fun z154368 F H locs hT hz154368 => ?_)
  obtain ⟨hz154368, yz154368⟩ := hz154368
  have pf0 := (yz154368.1 _ 0 (Or.inr (by decide)) (Or.inr (by decide)) (Or.inr (by decide)) (Or.inr (by decide)) (Or.inr (by decide)) (Or.inr (by decide)) (Or.inr (by decide)) (Or.inr (by decide))).trans pf0
  have pf1 := (yz154368.1 _ 1 (Or.inr (by decide)) (Or.inr (by decide)) (Or.inr (by decide)) (Or.inr (by decide)) (Or.inr (by decide)) (Or.inr (by decide)) (Or.inr (by decide)) (Or.inr (by decide))).trans pf1
  have pf2 := (yz154368.1 _ 2 (Or.inl (by rw [g0]; decide)) (Or.inr (by decide)) (Or.inr (by decide)) (Or.inr (by decide)) (Or.inr (by decide)) (Or.inr (by decide)) (Or.inr (by decide)) (Or.inr (by decide))).trans pf2
  have pf3 := (yz154368.1 _ 0 (Or.inr (by decide)) (Or.inr (by decide)) (Or.inr (by decide)) (Or.inr (by decide)) (Or.inr (by decide)) (Or.inr (by decide)) (Or.inr (by decide)) (Or.inr (by decide))).trans pf3
  have pf4 := (yz154368.1 _ 10 (Or.inr (by decide)) (Or.inr (by decide)) (Or.inr (by decide)) (Or.inr (by decide)) (Or.inr (by decide)) (Or.inr (by decide)) (Or.inr (by decide)) (Or.inr (by decide))).trans pf4
  have pf5 := (yz154368.1 _ 11 (Or.inr (by decide)) (Or.inr (by decide)) (Or.inr (by decide)) (Or.inr (by decide)) (Or.inr (by decide)) (Or.inr (by decide)) (Or.inr (by decide)) (Or.inr (by decide))).trans pf5
  have pf6 := (yz154368.1 _ 10 (Or.inr (by decide)) (Or.inr (by decide)) (Or.inr (by decide)) (Or.inr (by decide)) (Or.inr (by decide)) (Or.inr (by decide)) (Or.inr (by decide)) (Or.inr (by decide))).trans pf6
  have hv154359 := (yz154368.1 _ 0 (Or.inr (by decide)) (Or.inr (by decide)) (Or.inr (by decide)) (Or.inr (by decide)) (Or.inr (by decide)) (Or.inr (by decide)) (Or.inr (by decide)) (Or.inr (by decide))).trans hv154359
  have hv154365 := (yz154368.1 _ 1 (Or.inr (by decide)) (Or.inr (by decide)) (Or.inr (by decide)) (Or.inr (by decide)) (Or.inr (by decide)) (Or.inr (by decide)) (Or.inr (by decide)) (Or.inr (by decide))).trans hv154365
  have hfr : ∀ b j : Nat, (tag b ≠ 18 ∨ j ≠ 10) → (tag b ≠ 24 ∨ j ≠ 2) → (tag b ≠ 24 ∨ j ≠ 3) → (tag b ≠ 24 ∨ j ≠ 4) → (tag b ≠ 24 ∨ j ≠ 5) → (tag b ≠ 24 ∨ j ≠ 6) → (tag b ≠ 24 ∨ j ≠ 7) → (tag b ≠ 25 ∨ j ≠ 3) → (tag b ≠ 25 ∨ j ≠ 4) → (tag b ≠ 25 ∨ j ≠ 12) → fld F b j = fld Fo b j := fun b j n18_10 n24_2 n24_3 n24_4 n24_5 n24_6 n24_7 n25_3 n25_4 n25_12 => (yz154368.1 b j n24_2 n24_3 n24_4 n24_5 n24_6 n24_7 n25_3 n25_4).trans (hfr b j n18_10 n24_2 n24_3 n24_4 n24_5 n24_6 n24_7 n25_3 n25_4 n25_12)
  have hrel := nsr_of (fun j => yz154368.2 _ j (Or.inl gx4)) (fun j => yz154368.2 _ j (Or.inr gx5)) hrel
  refine lv_istore_n (lv' := [(3, .int z154368), (2, .int z154362), (1, .int x6), (0, .ref p0)]) hx hb dX3_readHouse_56 rfl hl (by decide) rfl (fun ls hl => ?_)
  refine lv_aload_n hx hb dX3_readHouse_57 rfl (lv_at hl 3 rfl) ?_
  refine t_get (C := RX3) (T := TX3) (N := 13) X hT m0 g0 rfl rfl 1 (by decide) qw_161 inlX3 rfl dX3_readHouse_58 (fun v154369 hv154369 ov154369 => ?_)
  obtain rfl : v154369 = .ref x1 := hv154369.symm.trans pf1
  refine lv_aload_n hx hb dX3_readHouse_61 rfl (lv_at hl 3 rfl) ?_
  refine t_get (C := RX3) (T := TX3) (N := 13) X hT m0 g0 rfl rfl 2 (by decide) qw_162 inlX3 rfl dX3_readHouse_62 (fun v154370 hv154370 ov154370 => ?_)
  obtain rfl : v154370 = .ref x2 := hv154370.symm.trans pf2
  refine lv_iload_n hx hb dX3_readHouse_65 rfl (lv_at hl 1 rfl) ?_
  refine lv_iload_n hx hb dX3_readHouse_66 rfl (lv_at hl 0 rfl) ?_
  refine t_cSi (n := 4) (As := [.ref x1, .ref x2, .int z154362, .int z154368]) (rest := []) X hT (kt323_X6_isFree l G tag L F hT.2.2.2 x1 x2 z154362 z154368 mx1 gx1 mx2 gx2) qw_378 qw_379 qw_380 qw_381 ⟨by decide +kernel, by decide +kernel, by decide +kernel⟩ ⟨Nat.le_of_ble_eq_true rfl, Nat.le_of_ble_eq_true rfl⟩ hl rfl rfl (Nat.le_of_ble_eq_true rfl) dX3_readHouse_67 ⟨Nat.le_of_ble_eq_true rfl, Nat.le_of_ble_eq_true rfl⟩ (fun z154371 F9 H locs hT hz154371 => ?_)
  obtain ⟨fz154371, hz154371⟩ := hz154371
  rw [fz154371] at hT
  refine lv_if_ne (tgt := 86) hx hb dX3_readHouse_70 (by decide) (fun c154372 => ?_) (fun c154372 => ?_)
  · have w154373 := cv_ne (rfl : z154371.toInt = z154371.toInt) (by decide : (0 : Int32).toInt = 0) c154372
    refine lv_aload_n hx hb dX3_readHouse_86 rfl (lv_at hl 3 rfl) ?_
    refine m_ldcKw X 31 rfl dX3_readHouse_87 ?_
    refine t_cVv (n := 1) (C := RX3) (T := TX3) (N := 13) (As := [.ref (G.2 (100 + 31))]) (rest := []) X hT (kt450_X3_word l G tag L F hT.2.2.2 p0 31 x0 x1 x2 x3 x4 x5 m0 g0 (by decide) mx0 gx0 pf0 mx1 gx1 pf1 mx2 gx2 pf2 mx3 gx3 pf3 mx4 gx4 pf4 mx5 gx5 pf5) m0 g0 rfl rfl qw_314 qw_315 qw_316 qw_28 qw_317 ⟨rfl, by decide +kernel, by decide +kernel, by decide +kernel⟩ ⟨Nat.le_of_ble_eq_true rfl, Nat.le_of_ble_eq_true rfl⟩ hl rfl rfl (Nat.le_of_ble_eq_true rfl) dX3_readHouse_90 ⟨Nat.le_of_ble_eq_true rfl, Nat.le_of_ble_eq_true rfl⟩ (fun F H locs hT hz154374 => ?_)
    have yz154374 := hz154374
    have pf0 := (yz154374.1 _ 0 (Or.inr (by decide)) (Or.inr (by decide)) (Or.inr (by decide)) (Or.inr (by decide)) (Or.inr (by decide)) (Or.inr (by decide)) (Or.inr (by decide)) (Or.inr (by decide))).trans pf0
    have pf1 := (yz154374.1 _ 1 (Or.inr (by decide)) (Or.inr (by decide)) (Or.inr (by decide)) (Or.inr (by decide)) (Or.inr (by decide)) (Or.inr (by decide)) (Or.inr (by decide)) (Or.inr (by decide))).trans pf1
    have pf2 := (yz154374.1 _ 2 (Or.inl (by rw [g0]; decide)) (Or.inr (by decide)) (Or.inr (by decide)) (Or.inr (by decide)) (Or.inr (by decide)) (Or.inr (by decide)) (Or.inr (by decide)) (Or.inr (by decide))).trans pf2
    have pf3 := (yz154374.1 _ 0 (Or.inr (by decide)) (Or.inr (by decide)) (Or.inr (by decide)) (Or.inr (by decide)) (Or.inr (by decide)) (Or.inr (by decide)) (Or.inr (by decide)) (Or.inr (by decide))).trans pf3
    have pf4 := (yz154374.1 _ 10 (Or.inr (by decide)) (Or.inr (by decide)) (Or.inr (by decide)) (Or.inr (by decide)) (Or.inr (by decide)) (Or.inr (by decide)) (Or.inr (by decide)) (Or.inr (by decide))).trans pf4
    have pf5 := (yz154374.1 _ 11 (Or.inr (by decide)) (Or.inr (by decide)) (Or.inr (by decide)) (Or.inr (by decide)) (Or.inr (by decide)) (Or.inr (by decide)) (Or.inr (by decide)) (Or.inr (by decide))).trans pf5
    have pf6 := (yz154374.1 _ 10 (Or.inr (by decide)) (Or.inr (by decide)) (Or.inr (by decide)) (Or.inr (by decide)) (Or.inr (by decide)) (Or.inr (by decide)) (Or.inr (by decide)) (Or.inr (by decide))).trans pf6
    have hv154359 := (yz154374.1 _ 0 (Or.inr (by decide)) (Or.inr (by decide)) (Or.inr (by decide)) (Or.inr (by decide)) (Or.inr (by decide)) (Or.inr (by decide)) (Or.inr (by decide)) (Or.inr (by decide))).trans hv154359
    have hv154365 := (yz154374.1 _ 1 (Or.inr (by decide)) (Or.inr (by decide)) (Or.inr (by decide)) (Or.inr (by decide)) (Or.inr (by decide)) (Or.inr (by decide)) (Or.inr (by decide)) (Or.inr (by decide))).trans hv154365
    have hfr : ∀ b j : Nat, (tag b ≠ 18 ∨ j ≠ 10) → (tag b ≠ 24 ∨ j ≠ 2) → (tag b ≠ 24 ∨ j ≠ 3) → (tag b ≠ 24 ∨ j ≠ 4) → (tag b ≠ 24 ∨ j ≠ 5) → (tag b ≠ 24 ∨ j ≠ 6) → (tag b ≠ 24 ∨ j ≠ 7) → (tag b ≠ 25 ∨ j ≠ 3) → (tag b ≠ 25 ∨ j ≠ 4) → (tag b ≠ 25 ∨ j ≠ 12) → fld F b j = fld Fo b j := fun b j n18_10 n24_2 n24_3 n24_4 n24_5 n24_6 n24_7 n25_3 n25_4 n25_12 => (yz154374.1 b j n24_2 n24_3 n24_4 n24_5 n24_6 n24_7 n25_3 n25_4).trans (hfr b j n18_10 n24_2 n24_3 n24_4 n24_5 n24_6 n24_7 n25_3 n25_4 n25_12)
    have hrel := nsr_of (fun j => yz154374.2 _ j (Or.inl gx4)) (fun j => yz154374.2 _ j (Or.inr gx5)) hrel
    refine lv_aload_n hx hb dX3_readHouse_93 rfl (lv_at hl 3 rfl) ?_
    refine lv_iconst (v := 3) hx hb dX3_readHouse_94 (by decide) ?_
    refine t_cVi (n := 1) (C := RX3) (T := TX3) (N := 13) (As := [.int 3]) (rest := []) X hT (kt453_X3_name l G tag L F hT.2.2.2 p0 3 x0 x1 x2 x3 x4 x5 m0 g0 (by decide) mx0 gx0 pf0 mx1 gx1 pf1 mx2 gx2 pf2 mx3 gx3 pf3 mx4 gx4 pf4 mx5 gx5 pf5 hrel) m0 g0 rfl rfl qw_393 qw_394 qw_395 qw_28 qw_396 ⟨rfl, by decide +kernel, by decide +kernel, by decide +kernel⟩ ⟨Nat.le_of_ble_eq_true rfl, Nat.le_of_ble_eq_true rfl⟩ hl rfl rfl (Nat.le_of_ble_eq_true rfl) dX3_readHouse_95 ⟨Nat.le_of_ble_eq_true rfl, Nat.le_of_ble_eq_true rfl⟩ (fun z154375 F H locs hT hz154375 => ?_)
    obtain ⟨hz154375, yz154375, hrel⟩ := hz154375
    have pf0 := (yz154375.1 _ 0 (Or.inr (by decide)) (Or.inr (by decide)) (Or.inr (by decide)) (Or.inr (by decide)) (Or.inr (by decide)) (Or.inr (by decide)) (Or.inr (by decide)) (Or.inr (by decide))).trans pf0
    have pf1 := (yz154375.1 _ 1 (Or.inr (by decide)) (Or.inr (by decide)) (Or.inr (by decide)) (Or.inr (by decide)) (Or.inr (by decide)) (Or.inr (by decide)) (Or.inr (by decide)) (Or.inr (by decide))).trans pf1
    have pf2 := (yz154375.1 _ 2 (Or.inl (by rw [g0]; decide)) (Or.inr (by decide)) (Or.inr (by decide)) (Or.inr (by decide)) (Or.inr (by decide)) (Or.inr (by decide)) (Or.inr (by decide)) (Or.inr (by decide))).trans pf2
    have pf3 := (yz154375.1 _ 0 (Or.inr (by decide)) (Or.inr (by decide)) (Or.inr (by decide)) (Or.inr (by decide)) (Or.inr (by decide)) (Or.inr (by decide)) (Or.inr (by decide)) (Or.inr (by decide))).trans pf3
    have pf4 := (yz154375.1 _ 10 (Or.inr (by decide)) (Or.inr (by decide)) (Or.inr (by decide)) (Or.inr (by decide)) (Or.inr (by decide)) (Or.inr (by decide)) (Or.inr (by decide)) (Or.inr (by decide))).trans pf4
    have pf5 := (yz154375.1 _ 11 (Or.inr (by decide)) (Or.inr (by decide)) (Or.inr (by decide)) (Or.inr (by decide)) (Or.inr (by decide)) (Or.inr (by decide)) (Or.inr (by decide)) (Or.inr (by decide))).trans pf5
    have pf6 := (yz154375.1 _ 10 (Or.inr (by decide)) (Or.inr (by decide)) (Or.inr (by decide)) (Or.inr (by decide)) (Or.inr (by decide)) (Or.inr (by decide)) (Or.inr (by decide)) (Or.inr (by decide))).trans pf6
    have hv154359 := (yz154375.1 _ 0 (Or.inr (by decide)) (Or.inr (by decide)) (Or.inr (by decide)) (Or.inr (by decide)) (Or.inr (by decide)) (Or.inr (by decide)) (Or.inr (by decide)) (Or.inr (by decide))).trans hv154359
    have hv154365 := (yz154375.1 _ 1 (Or.inr (by decide)) (Or.inr (by decide)) (Or.inr (by decide)) (Or.inr (by decide)) (Or.inr (by decide)) (Or.inr (by decide)) (Or.inr (by decide)) (Or.inr (by decide))).trans hv154365
    have hfr : ∀ b j : Nat, (tag b ≠ 18 ∨ j ≠ 10) → (tag b ≠ 24 ∨ j ≠ 2) → (tag b ≠ 24 ∨ j ≠ 3) → (tag b ≠ 24 ∨ j ≠ 4) → (tag b ≠ 24 ∨ j ≠ 5) → (tag b ≠ 24 ∨ j ≠ 6) → (tag b ≠ 24 ∨ j ≠ 7) → (tag b ≠ 25 ∨ j ≠ 3) → (tag b ≠ 25 ∨ j ≠ 4) → (tag b ≠ 25 ∨ j ≠ 12) → fld F b j = fld Fo b j := fun b j n18_10 n24_2 n24_3 n24_4 n24_5 n24_6 n24_7 n25_3 n25_4 n25_12 => (yz154375.1 b j n24_2 n24_3 n24_4 n24_5 n24_6 n24_7 n25_3 n25_4).trans (hfr b j n18_10 n24_2 n24_3 n24_4 n24_5 n24_6 n24_7 n25_3 n25_4 n25_12)
    refine lv_istore (lv' := [(4, .int z154375), (3, .int z154368), (2, .int z154362), (1, .int x6), (0, .ref p0)]) hx hb dX3_readHouse_98 hl (by decide) rfl (fun ls hl => ?_)
    refine lv_aload_n hx hb dX3_readHouse_100 rfl (lv_at hl 4 rfl) ?_
    refine m_ldcKw X 32 rfl dX3_readHouse_101 ?_
    refine t_cVv (n := 1) (C := RX3) (T := TX3) (N := 13) (As := [.ref (G.2 (100 + 32))]) (rest := []) X hT (kt450_X3_word l G tag L F hT.2.2.2 p0 32 x0 x1 x2 x3 x4 x5 m0 g0 (by decide) mx0 gx0 pf0 mx1 gx1 pf1 mx2 gx2 pf2 mx3 gx3 pf3 mx4 gx4 pf4 mx5 gx5 pf5) m0 g0 rfl rfl qw_314 qw_315 qw_316 qw_28 qw_317 ⟨rfl, by decide +kernel, by decide +kernel, by decide +kernel⟩ ⟨Nat.le_of_ble_eq_true rfl, Nat.le_of_ble_eq_true rfl⟩ hl rfl rfl (Nat.le_of_ble_eq_true rfl) dX3_readHouse_104 ⟨Nat.le_of_ble_eq_true rfl, Nat.le_of_ble_eq_true rfl⟩ (fun F H locs hT hz154376 => ?_)
    have yz154376 := hz154376
    have pf0 := (yz154376.1 _ 0 (Or.inr (by decide)) (Or.inr (by decide)) (Or.inr (by decide)) (Or.inr (by decide)) (Or.inr (by decide)) (Or.inr (by decide)) (Or.inr (by decide)) (Or.inr (by decide))).trans pf0
    have pf1 := (yz154376.1 _ 1 (Or.inr (by decide)) (Or.inr (by decide)) (Or.inr (by decide)) (Or.inr (by decide)) (Or.inr (by decide)) (Or.inr (by decide)) (Or.inr (by decide)) (Or.inr (by decide))).trans pf1
    have pf2 := (yz154376.1 _ 2 (Or.inl (by rw [g0]; decide)) (Or.inr (by decide)) (Or.inr (by decide)) (Or.inr (by decide)) (Or.inr (by decide)) (Or.inr (by decide)) (Or.inr (by decide)) (Or.inr (by decide))).trans pf2
    have pf3 := (yz154376.1 _ 0 (Or.inr (by decide)) (Or.inr (by decide)) (Or.inr (by decide)) (Or.inr (by decide)) (Or.inr (by decide)) (Or.inr (by decide)) (Or.inr (by decide)) (Or.inr (by decide))).trans pf3
    have pf4 := (yz154376.1 _ 10 (Or.inr (by decide)) (Or.inr (by decide)) (Or.inr (by decide)) (Or.inr (by decide)) (Or.inr (by decide)) (Or.inr (by decide)) (Or.inr (by decide)) (Or.inr (by decide))).trans pf4
    have pf5 := (yz154376.1 _ 11 (Or.inr (by decide)) (Or.inr (by decide)) (Or.inr (by decide)) (Or.inr (by decide)) (Or.inr (by decide)) (Or.inr (by decide)) (Or.inr (by decide)) (Or.inr (by decide))).trans pf5
    have pf6 := (yz154376.1 _ 10 (Or.inr (by decide)) (Or.inr (by decide)) (Or.inr (by decide)) (Or.inr (by decide)) (Or.inr (by decide)) (Or.inr (by decide)) (Or.inr (by decide)) (Or.inr (by decide))).trans pf6
    have hv154359 := (yz154376.1 _ 0 (Or.inr (by decide)) (Or.inr (by decide)) (Or.inr (by decide)) (Or.inr (by decide)) (Or.inr (by decide)) (Or.inr (by decide)) (Or.inr (by decide)) (Or.inr (by decide))).trans hv154359
    have hv154365 := (yz154376.1 _ 1 (Or.inr (by decide)) (Or.inr (by decide)) (Or.inr (by decide)) (Or.inr (by decide)) (Or.inr (by decide)) (Or.inr (by decide)) (Or.inr (by decide)) (Or.inr (by decide))).trans hv154365
    have hfr : ∀ b j : Nat, (tag b ≠ 18 ∨ j ≠ 10) → (tag b ≠ 24 ∨ j ≠ 2) → (tag b ≠ 24 ∨ j ≠ 3) → (tag b ≠ 24 ∨ j ≠ 4) → (tag b ≠ 24 ∨ j ≠ 5) → (tag b ≠ 24 ∨ j ≠ 6) → (tag b ≠ 24 ∨ j ≠ 7) → (tag b ≠ 25 ∨ j ≠ 3) → (tag b ≠ 25 ∨ j ≠ 4) → (tag b ≠ 25 ∨ j ≠ 12) → fld F b j = fld Fo b j := fun b j n18_10 n24_2 n24_3 n24_4 n24_5 n24_6 n24_7 n25_3 n25_4 n25_12 => (yz154376.1 b j n24_2 n24_3 n24_4 n24_5 n24_6 n24_7 n25_3 n25_4).trans (hfr b j n18_10 n24_2 n24_3 n24_4 n24_5 n24_6 n24_7 n25_3 n25_4 n25_12)
    have hrel := nsr_of (fun j => yz154376.2 _ j (Or.inl gx4)) (fun j => yz154376.2 _ j (Or.inr gx5)) hrel
    refine lv_aload_n hx hb dX3_readHouse_107 rfl (lv_at hl 4 rfl) ?_
    refine lv_iconst (v := 0) hx hb dX3_readHouse_108 (by decide) ?_
    refine lv_bipush (v := 99) hx hb dX3_readHouse_109 (by decide) ?_
    refine t_cVi (n := 2) (C := RX3) (T := TX3) (N := 13) (As := [.int 0, .int 99]) (rest := []) X hT (kt454_X3_whole l G tag L F hT.2.2.2 p0 0 99 x0 x1 x2 x3 x4 x5 m0 g0 (by decide) (by decide) mx0 gx0 pf0 mx1 gx1 pf1 mx2 gx2 pf2 mx3 gx3 pf3 mx4 gx4 pf4 mx5 gx5 pf5) m0 g0 rfl rfl qw_318 qw_319 qw_320 qw_28 qw_321 ⟨rfl, by decide +kernel, by decide +kernel, by decide +kernel⟩ ⟨Nat.le_of_ble_eq_true rfl, Nat.le_of_ble_eq_true rfl⟩ hl rfl rfl (Nat.le_of_ble_eq_true rfl) dX3_readHouse_111 ⟨Nat.le_of_ble_eq_true rfl, Nat.le_of_ble_eq_true rfl⟩ (fun z154377 F H locs hT hz154377 => ?_)
    obtain ⟨hz154377, yz154377⟩ := hz154377
    have pf0 := (yz154377.1 _ 0 (Or.inr (by decide)) (Or.inr (by decide)) (Or.inr (by decide)) (Or.inr (by decide)) (Or.inr (by decide)) (Or.inr (by decide)) (Or.inr (by decide)) (Or.inr (by decide))).trans pf0
    have pf1 := (yz154377.1 _ 1 (Or.inr (by decide)) (Or.inr (by decide)) (Or.inr (by decide)) (Or.inr (by decide)) (Or.inr (by decide)) (Or.inr (by decide)) (Or.inr (by decide)) (Or.inr (by decide))).trans pf1
    have pf2 := (yz154377.1 _ 2 (Or.inl (by rw [g0]; decide)) (Or.inr (by decide)) (Or.inr (by decide)) (Or.inr (by decide)) (Or.inr (by decide)) (Or.inr (by decide)) (Or.inr (by decide)) (Or.inr (by decide))).trans pf2
    have pf3 := (yz154377.1 _ 0 (Or.inr (by decide)) (Or.inr (by decide)) (Or.inr (by decide)) (Or.inr (by decide)) (Or.inr (by decide)) (Or.inr (by decide)) (Or.inr (by decide)) (Or.inr (by decide))).trans pf3
    have pf4 := (yz154377.1 _ 10 (Or.inr (by decide)) (Or.inr (by decide)) (Or.inr (by decide)) (Or.inr (by decide)) (Or.inr (by decide)) (Or.inr (by decide)) (Or.inr (by decide)) (Or.inr (by decide))).trans pf4
    have pf5 := (yz154377.1 _ 11 (Or.inr (by decide)) (Or.inr (by decide)) (Or.inr (by decide)) (Or.inr (by decide)) (Or.inr (by decide)) (Or.inr (by decide)) (Or.inr (by decide)) (Or.inr (by decide))).trans pf5
    have pf6 := (yz154377.1 _ 10 (Or.inr (by decide)) (Or.inr (by decide)) (Or.inr (by decide)) (Or.inr (by decide)) (Or.inr (by decide)) (Or.inr (by decide)) (Or.inr (by decide)) (Or.inr (by decide))).trans pf6
    have hv154359 := (yz154377.1 _ 0 (Or.inr (by decide)) (Or.inr (by decide)) (Or.inr (by decide)) (Or.inr (by decide)) (Or.inr (by decide)) (Or.inr (by decide)) (Or.inr (by decide)) (Or.inr (by decide))).trans hv154359
    have hv154365 := (yz154377.1 _ 1 (Or.inr (by decide)) (Or.inr (by decide)) (Or.inr (by decide)) (Or.inr (by decide)) (Or.inr (by decide)) (Or.inr (by decide)) (Or.inr (by decide)) (Or.inr (by decide))).trans hv154365
    have hfr : ∀ b j : Nat, (tag b ≠ 18 ∨ j ≠ 10) → (tag b ≠ 24 ∨ j ≠ 2) → (tag b ≠ 24 ∨ j ≠ 3) → (tag b ≠ 24 ∨ j ≠ 4) → (tag b ≠ 24 ∨ j ≠ 5) → (tag b ≠ 24 ∨ j ≠ 6) → (tag b ≠ 24 ∨ j ≠ 7) → (tag b ≠ 25 ∨ j ≠ 3) → (tag b ≠ 25 ∨ j ≠ 4) → (tag b ≠ 25 ∨ j ≠ 12) → fld F b j = fld Fo b j := fun b j n18_10 n24_2 n24_3 n24_4 n24_5 n24_6 n24_7 n25_3 n25_4 n25_12 => (yz154377.1 b j n24_2 n24_3 n24_4 n24_5 n24_6 n24_7 n25_3 n25_4).trans (hfr b j n18_10 n24_2 n24_3 n24_4 n24_5 n24_6 n24_7 n25_3 n25_4 n25_12)
    have hrel := nsr_of (fun j => yz154377.2 _ j (Or.inl gx4)) (fun j => yz154377.2 _ j (Or.inr gx5)) hrel
    refine lv_istore (lv' := [(5, .int z154377), (4, .int z154375), (3, .int z154368), (2, .int z154362), (1, .int x6), (0, .ref p0)]) hx hb dX3_readHouse_114 hl (by decide) rfl (fun ls hl => ?_)
    refine lv_aload_n hx hb dX3_readHouse_116 rfl (lv_at hl 5 rfl) ?_
    refine m_ldcKw X 33 rfl dX3_readHouse_117 ?_
    refine t_cVv (n := 1) (C := RX3) (T := TX3) (N := 13) (As := [.ref (G.2 (100 + 33))]) (rest := []) X hT (kt450_X3_word l G tag L F hT.2.2.2 p0 33 x0 x1 x2 x3 x4 x5 m0 g0 (by decide) mx0 gx0 pf0 mx1 gx1 pf1 mx2 gx2 pf2 mx3 gx3 pf3 mx4 gx4 pf4 mx5 gx5 pf5) m0 g0 rfl rfl qw_314 qw_315 qw_316 qw_28 qw_317 ⟨rfl, by decide +kernel, by decide +kernel, by decide +kernel⟩ ⟨Nat.le_of_ble_eq_true rfl, Nat.le_of_ble_eq_true rfl⟩ hl rfl rfl (Nat.le_of_ble_eq_true rfl) dX3_readHouse_120 ⟨Nat.le_of_ble_eq_true rfl, Nat.le_of_ble_eq_true rfl⟩ (fun F H locs hT hz154378 => ?_)
    have yz154378 := hz154378
    have pf0 := (yz154378.1 _ 0 (Or.inr (by decide)) (Or.inr (by decide)) (Or.inr (by decide)) (Or.inr (by decide)) (Or.inr (by decide)) (Or.inr (by decide)) (Or.inr (by decide)) (Or.inr (by decide))).trans pf0
    have pf1 := (yz154378.1 _ 1 (Or.inr (by decide)) (Or.inr (by decide)) (Or.inr (by decide)) (Or.inr (by decide)) (Or.inr (by decide)) (Or.inr (by decide)) (Or.inr (by decide)) (Or.inr (by decide))).trans pf1
    have pf2 := (yz154378.1 _ 2 (Or.inl (by rw [g0]; decide)) (Or.inr (by decide)) (Or.inr (by decide)) (Or.inr (by decide)) (Or.inr (by decide)) (Or.inr (by decide)) (Or.inr (by decide)) (Or.inr (by decide))).trans pf2
    have pf3 := (yz154378.1 _ 0 (Or.inr (by decide)) (Or.inr (by decide)) (Or.inr (by decide)) (Or.inr (by decide)) (Or.inr (by decide)) (Or.inr (by decide)) (Or.inr (by decide)) (Or.inr (by decide))).trans pf3
    have pf4 := (yz154378.1 _ 10 (Or.inr (by decide)) (Or.inr (by decide)) (Or.inr (by decide)) (Or.inr (by decide)) (Or.inr (by decide)) (Or.inr (by decide)) (Or.inr (by decide)) (Or.inr (by decide))).trans pf4
    have pf5 := (yz154378.1 _ 11 (Or.inr (by decide)) (Or.inr (by decide)) (Or.inr (by decide)) (Or.inr (by decide)) (Or.inr (by decide)) (Or.inr (by decide)) (Or.inr (by decide)) (Or.inr (by decide))).trans pf5
    have pf6 := (yz154378.1 _ 10 (Or.inr (by decide)) (Or.inr (by decide)) (Or.inr (by decide)) (Or.inr (by decide)) (Or.inr (by decide)) (Or.inr (by decide)) (Or.inr (by decide)) (Or.inr (by decide))).trans pf6
    have hv154359 := (yz154378.1 _ 0 (Or.inr (by decide)) (Or.inr (by decide)) (Or.inr (by decide)) (Or.inr (by decide)) (Or.inr (by decide)) (Or.inr (by decide)) (Or.inr (by decide)) (Or.inr (by decide))).trans hv154359
    have hv154365 := (yz154378.1 _ 1 (Or.inr (by decide)) (Or.inr (by decide)) (Or.inr (by decide)) (Or.inr (by decide)) (Or.inr (by decide)) (Or.inr (by decide)) (Or.inr (by decide)) (Or.inr (by decide))).trans hv154365
    have hfr : ∀ b j : Nat, (tag b ≠ 18 ∨ j ≠ 10) → (tag b ≠ 24 ∨ j ≠ 2) → (tag b ≠ 24 ∨ j ≠ 3) → (tag b ≠ 24 ∨ j ≠ 4) → (tag b ≠ 24 ∨ j ≠ 5) → (tag b ≠ 24 ∨ j ≠ 6) → (tag b ≠ 24 ∨ j ≠ 7) → (tag b ≠ 25 ∨ j ≠ 3) → (tag b ≠ 25 ∨ j ≠ 4) → (tag b ≠ 25 ∨ j ≠ 12) → fld F b j = fld Fo b j := fun b j n18_10 n24_2 n24_3 n24_4 n24_5 n24_6 n24_7 n25_3 n25_4 n25_12 => (yz154378.1 b j n24_2 n24_3 n24_4 n24_5 n24_6 n24_7 n25_3 n25_4).trans (hfr b j n18_10 n24_2 n24_3 n24_4 n24_5 n24_6 n24_7 n25_3 n25_4 n25_12)
    have hrel := nsr_of (fun j => yz154378.2 _ j (Or.inl gx4)) (fun j => yz154378.2 _ j (Or.inr gx5)) hrel
    refine lv_aload_n hx hb dX3_readHouse_123 rfl (lv_at hl 5 rfl) ?_
    refine lv_iconst (v := 0) hx hb dX3_readHouse_124 (by decide) ?_
    refine lv_sipush (v := 999) hx hb dX3_readHouse_125 (by decide) ?_
    refine t_cVi (n := 2) (C := RX3) (T := TX3) (N := 13) (As := [.int 0, .int 999]) (rest := []) X hT (kt455_X3_whole l G tag L F hT.2.2.2 p0 0 999 x0 x1 x2 x3 x4 x5 m0 g0 (by decide) (by decide) mx0 gx0 pf0 mx1 gx1 pf1 mx2 gx2 pf2 mx3 gx3 pf3 mx4 gx4 pf4 mx5 gx5 pf5) m0 g0 rfl rfl qw_318 qw_319 qw_320 qw_28 qw_321 ⟨rfl, by decide +kernel, by decide +kernel, by decide +kernel⟩ ⟨Nat.le_of_ble_eq_true rfl, Nat.le_of_ble_eq_true rfl⟩ hl rfl rfl (Nat.le_of_ble_eq_true rfl) dX3_readHouse_128 ⟨Nat.le_of_ble_eq_true rfl, Nat.le_of_ble_eq_true rfl⟩ (fun z154379 F H locs hT hz154379 => ?_)
    obtain ⟨hz154379, yz154379⟩ := hz154379
    have pf0 := (yz154379.1 _ 0 (Or.inr (by decide)) (Or.inr (by decide)) (Or.inr (by decide)) (Or.inr (by decide)) (Or.inr (by decide)) (Or.inr (by decide)) (Or.inr (by decide)) (Or.inr (by decide))).trans pf0
    have pf1 := (yz154379.1 _ 1 (Or.inr (by decide)) (Or.inr (by decide)) (Or.inr (by decide)) (Or.inr (by decide)) (Or.inr (by decide)) (Or.inr (by decide)) (Or.inr (by decide)) (Or.inr (by decide))).trans pf1
    have pf2 := (yz154379.1 _ 2 (Or.inl (by rw [g0]; decide)) (Or.inr (by decide)) (Or.inr (by decide)) (Or.inr (by decide)) (Or.inr (by decide)) (Or.inr (by decide)) (Or.inr (by decide)) (Or.inr (by decide))).trans pf2
    have pf3 := (yz154379.1 _ 0 (Or.inr (by decide)) (Or.inr (by decide)) (Or.inr (by decide)) (Or.inr (by decide)) (Or.inr (by decide)) (Or.inr (by decide)) (Or.inr (by decide)) (Or.inr (by decide))).trans pf3
    have pf4 := (yz154379.1 _ 10 (Or.inr (by decide)) (Or.inr (by decide)) (Or.inr (by decide)) (Or.inr (by decide)) (Or.inr (by decide)) (Or.inr (by decide)) (Or.inr (by decide)) (Or.inr (by decide))).trans pf4
    have pf5 := (yz154379.1 _ 11 (Or.inr (by decide)) (Or.inr (by decide)) (Or.inr (by decide)) (Or.inr (by decide)) (Or.inr (by decide)) (Or.inr (by decide)) (Or.inr (by decide)) (Or.inr (by decide))).trans pf5
    have pf6 := (yz154379.1 _ 10 (Or.inr (by decide)) (Or.inr (by decide)) (Or.inr (by decide)) (Or.inr (by decide)) (Or.inr (by decide)) (Or.inr (by decide)) (Or.inr (by decide)) (Or.inr (by decide))).trans pf6
    have hv154359 := (yz154379.1 _ 0 (Or.inr (by decide)) (Or.inr (by decide)) (Or.inr (by decide)) (Or.inr (by decide)) (Or.inr (by decide)) (Or.inr (by decide)) (Or.inr (by decide)) (Or.inr (by decide))).trans hv154359
    have hv154365 := (yz154379.1 _ 1 (Or.inr (by decide)) (Or.inr (by decide)) (Or.inr (by decide)) (Or.inr (by decide)) (Or.inr (by decide)) (Or.inr (by decide)) (Or.inr (by decide)) (Or.inr (by decide))).trans hv154365
    have hfr : ∀ b j : Nat, (tag b ≠ 18 ∨ j ≠ 10) → (tag b ≠ 24 ∨ j ≠ 2) → (tag b ≠ 24 ∨ j ≠ 3) → (tag b ≠ 24 ∨ j ≠ 4) → (tag b ≠ 24 ∨ j ≠ 5) → (tag b ≠ 24 ∨ j ≠ 6) → (tag b ≠ 24 ∨ j ≠ 7) → (tag b ≠ 25 ∨ j ≠ 3) → (tag b ≠ 25 ∨ j ≠ 4) → (tag b ≠ 25 ∨ j ≠ 12) → fld F b j = fld Fo b j := fun b j n18_10 n24_2 n24_3 n24_4 n24_5 n24_6 n24_7 n25_3 n25_4 n25_12 => (yz154379.1 b j n24_2 n24_3 n24_4 n24_5 n24_6 n24_7 n25_3 n25_4).trans (hfr b j n18_10 n24_2 n24_3 n24_4 n24_5 n24_6 n24_7 n25_3 n25_4 n25_12)
    have hrel := nsr_of (fun j => yz154379.2 _ j (Or.inl gx4)) (fun j => yz154379.2 _ j (Or.inr gx5)) hrel
    refine lv_istore (lv' := [(6, .int z154379), (5, .int z154377), (4, .int z154375), (3, .int z154368), (2, .int z154362), (1, .int x6), (0, .ref p0)]) hx hb dX3_readHouse_131 hl (by decide) rfl (fun ls hl => ?_)
    refine lv_aload_n hx hb dX3_readHouse_133 rfl (lv_at hl 6 rfl) ?_
    refine t_get (C := RX3) (T := TX3) (N := 13) X hT m0 g0 rfl rfl 3 (by decide) qw_163 inlX3 rfl dX3_readHouse_134 (fun v154380 hv154380 ov154380 => ?_)
    obtain ⟨z154381, rfl, rz154381⟩ := okV_i ov154380
    refine lv_if_ne (tgt := 211) hx hb dX3_readHouse_137 (by decide) (fun c154382 => ?_) (fun c154382 => ?_)
    · have w154383 := cv_ne (rfl : z154381.toInt = z154381.toInt) (by decide : (0 : Int32).toInt = 0) c154382
      exact t_vret hQ X hT ⟨hfr, hrel⟩ (Nat.le_of_ble_eq_true rfl) (Nat.le_of_ble_eq_true rfl) dX3_readHouse_211
    · have w154384 := cv_eq (rfl : z154381.toInt = z154381.toInt) (by decide : (0 : Int32).toInt = 0) c154382
      refine lv_iload_n hx hb dX3_readHouse_140 rfl (lv_at hl 5 rfl) ?_
      refine lv_iconst (v := 4) hx hb dX3_readHouse_141 (by decide) ?_
      refine lv_icmp_ge (tgt := 211) hx hb dX3_readHouse_142 (by decide) (fun c154385 => ?_) (fun c154385 => ?_)
      · have w154386 := cv_le (by decide : (4 : Int32).toInt = 4) (rfl : x6.toInt = x6.toInt) c154385
        exfalso
        omega
      · have w154387 := cv_nle (by decide : (4 : Int32).toInt = 4) (rfl : x6.toInt = x6.toInt) c154385
        refine lv_aload_n hx hb dX3_readHouse_145 rfl (lv_at hl 6 rfl) ?_
        refine t_get (C := RX3) (T := TX3) (N := 13) X hT m0 g0 rfl rfl 1 (by decide) qw_161 inlX3 rfl dX3_readHouse_146 (fun v154388 hv154388 ov154388 => ?_)
        obtain rfl : v154388 = .ref x1 := hv154388.symm.trans pf1
        refine t_get (C := RX1) (T := TX1) (N := 20) X hT mx1 gx1 rfl rfl 11 (by decide) qw_373 inlX1 rfl dX3_readHouse_149 (fun v154389 hv154389 ov154389 => ?_)
        obtain ⟨b154390, rfl, mb154390, gb154390⟩ := okV_r ov154389
        have gb154390 : tag b154390 = 4 := tg_of gb154390
        refine lv_iload_n hx hb dX3_readHouse_152 rfl (lv_at hl 5 rfl) ?_
        refine lv_iload_n hx hb dX3_readHouse_153 rfl (lv_at hl 4 rfl) ?_
        refine t_ist X hT mb154390 gb154390 rfl (by omega) (show 0 ≤ (z154362 : Int32).toInt ∧ (z154362 : Int32).toInt ≤ 11 from (by omega)) dX3_readHouse_154 (fun F H locs hT v154391 h1v154391 h2v154391 => ?_)
        have pf0 := (h2v154391 _ _).trans pf0
        have pf1 := (h2v154391 _ _).trans pf1
        have pf2 := (h2v154391 _ _).trans pf2
        have pf3 := (h2v154391 _ _).trans pf3
        have pf4 := (h2v154391 _ _).trans pf4
        have pf5 := (h2v154391 _ _).trans pf5
        have pf6 := (h2v154391 _ _).trans pf6
        have hv154359 := (h2v154391 _ _).trans hv154359
        have hv154365 := (h2v154391 _ _).trans hv154365
        have hv154380 := (h2v154391 _ _).trans hv154380
        have hv154389 := (h2v154391 _ _).trans hv154389
        have hfr : ∀ b j : Nat, (tag b ≠ 18 ∨ j ≠ 10) → (tag b ≠ 24 ∨ j ≠ 2) → (tag b ≠ 24 ∨ j ≠ 3) → (tag b ≠ 24 ∨ j ≠ 4) → (tag b ≠ 24 ∨ j ≠ 5) → (tag b ≠ 24 ∨ j ≠ 6) → (tag b ≠ 24 ∨ j ≠ 7) → (tag b ≠ 25 ∨ j ≠ 3) → (tag b ≠ 25 ∨ j ≠ 4) → (tag b ≠ 25 ∨ j ≠ 12) → fld F b j = fld Fo b j := fun b j n18_10 n24_2 n24_3 n24_4 n24_5 n24_6 n24_7 n25_3 n25_4 n25_12 => (h2v154391 b j).trans (hfr b j n18_10 n24_2 n24_3 n24_4 n24_5 n24_6 n24_7 n25_3 n25_4 n25_12)
        have hrel := nsr_of (fun j => h1v154391 _ j (Or.inl (tne gx4 gb154390 (by decide)))) (fun j => h1v154391 _ j (Or.inl (tne gx5 gb154390 (by decide)))) hrel
        refine lv_aload_n hx hb dX3_readHouse_155 rfl (lv_at hl 6 rfl) ?_
        refine t_get (C := RX3) (T := TX3) (N := 13) X hT m0 g0 rfl rfl 1 (by decide) qw_161 inlX3 rfl dX3_readHouse_156 (fun v154392 hv154392 ov154392 => ?_)
        obtain rfl : v154392 = .ref x1 := hv154392.symm.trans pf1
        refine t_get (C := RX1) (T := TX1) (N := 20) X hT mx1 gx1 rfl rfl 12 (by decide) qw_374 inlX1 rfl dX3_readHouse_159 (fun v154393 hv154393 ov154393 => ?_)
        obtain ⟨b154394, rfl, mb154394, gb154394⟩ := okV_r ov154393
        have gb154394 : tag b154394 = 4 := tg_of gb154394
        refine lv_iload_n hx hb dX3_readHouse_162 rfl (lv_at hl 5 rfl) ?_
        refine lv_iload_n hx hb dX3_readHouse_163 rfl (lv_at hl 3 rfl) ?_
        refine t_ist X hT mb154394 gb154394 rfl (by omega) (show 0 ≤ (z154368 : Int32).toInt ∧ (z154368 : Int32).toInt ≤ 11 from (by omega)) dX3_readHouse_164 (fun F H locs hT v154395 h1v154395 h2v154395 => ?_)
        have pf0 := (h2v154395 _ _).trans pf0
        have pf1 := (h2v154395 _ _).trans pf1
        have pf2 := (h2v154395 _ _).trans pf2
        have pf3 := (h2v154395 _ _).trans pf3
        have pf4 := (h2v154395 _ _).trans pf4
        have pf5 := (h2v154395 _ _).trans pf5
        have pf6 := (h2v154395 _ _).trans pf6
        have hv154359 := (h2v154395 _ _).trans hv154359
        have hv154365 := (h2v154395 _ _).trans hv154365
        have hv154380 := (h2v154395 _ _).trans hv154380
        have hv154389 := (h2v154395 _ _).trans hv154389
        have hv154393 := (h2v154395 _ _).trans hv154393
        have hfr : ∀ b j : Nat, (tag b ≠ 18 ∨ j ≠ 10) → (tag b ≠ 24 ∨ j ≠ 2) → (tag b ≠ 24 ∨ j ≠ 3) → (tag b ≠ 24 ∨ j ≠ 4) → (tag b ≠ 24 ∨ j ≠ 5) → (tag b ≠ 24 ∨ j ≠ 6) → (tag b ≠ 24 ∨ j ≠ 7) → (tag b ≠ 25 ∨ j ≠ 3) → (tag b ≠ 25 ∨ j ≠ 4) → (tag b ≠ 25 ∨ j ≠ 12) → fld F b j = fld Fo b j := fun b j n18_10 n24_2 n24_3 n24_4 n24_5 n24_6 n24_7 n25_3 n25_4 n25_12 => (h2v154395 b j).trans (hfr b j n18_10 n24_2 n24_3 n24_4 n24_5 n24_6 n24_7 n25_3 n25_4 n25_12)
        have hrel := nsr_of (fun j => h1v154395 _ j (Or.inl (tne gx4 gb154394 (by decide)))) (fun j => h1v154395 _ j (Or.inl (tne gx5 gb154394 (by decide)))) hrel
        refine lv_aload_n hx hb dX3_readHouse_165 rfl (lv_at hl 6 rfl) ?_
        refine t_get (C := RX3) (T := TX3) (N := 13) X hT m0 g0 rfl rfl 1 (by decide) qw_161 inlX3 rfl dX3_readHouse_166 (fun v154396 hv154396 ov154396 => ?_)
        obtain rfl : v154396 = .ref x1 := hv154396.symm.trans pf1
        refine t_get (C := RX1) (T := TX1) (N := 20) X hT mx1 gx1 rfl rfl 13 (by decide) qw_375 inlX1 rfl dX3_readHouse_169 (fun v154397 hv154397 ov154397 => ?_)
        obtain ⟨b154398, rfl, mb154398, gb154398⟩ := okV_r ov154397
        have gb154398 : tag b154398 = 5 := tg_of gb154398
        refine lv_iload_n hx hb dX3_readHouse_172 rfl (lv_at hl 5 rfl) ?_
        refine lv_iload hx hb dX3_readHouse_173 (lv_at hl 2 rfl) ?_
        refine t_ist X hT mb154398 gb154398 rfl (by omega) (show (-2147483648) ≤ (z154375 : Int32).toInt ∧ (z154375 : Int32).toInt ≤ 2147483647 from (by omega)) dX3_readHouse_175 (fun F H locs hT v154399 h1v154399 h2v154399 => ?_)
        have pf0 := (h2v154399 _ _).trans pf0
        have pf1 := (h2v154399 _ _).trans pf1
        have pf2 := (h2v154399 _ _).trans pf2
        have pf3 := (h2v154399 _ _).trans pf3
        have pf4 := (h2v154399 _ _).trans pf4
        have pf5 := (h2v154399 _ _).trans pf5
        have pf6 := (h2v154399 _ _).trans pf6
        have hv154359 := (h2v154399 _ _).trans hv154359
        have hv154365 := (h2v154399 _ _).trans hv154365
        have hv154380 := (h2v154399 _ _).trans hv154380
        have hv154389 := (h2v154399 _ _).trans hv154389
        have hv154393 := (h2v154399 _ _).trans hv154393
        have hv154397 := (h2v154399 _ _).trans hv154397
        have hfr : ∀ b j : Nat, (tag b ≠ 18 ∨ j ≠ 10) → (tag b ≠ 24 ∨ j ≠ 2) → (tag b ≠ 24 ∨ j ≠ 3) → (tag b ≠ 24 ∨ j ≠ 4) → (tag b ≠ 24 ∨ j ≠ 5) → (tag b ≠ 24 ∨ j ≠ 6) → (tag b ≠ 24 ∨ j ≠ 7) → (tag b ≠ 25 ∨ j ≠ 3) → (tag b ≠ 25 ∨ j ≠ 4) → (tag b ≠ 25 ∨ j ≠ 12) → fld F b j = fld Fo b j := fun b j n18_10 n24_2 n24_3 n24_4 n24_5 n24_6 n24_7 n25_3 n25_4 n25_12 => (h2v154399 b j).trans (hfr b j n18_10 n24_2 n24_3 n24_4 n24_5 n24_6 n24_7 n25_3 n25_4 n25_12)
        have hrel := nsr_of (fun j => h1v154399 _ j (Or.inl (tne gx4 gb154398 (by decide)))) (fun j => h1v154399 _ j (Or.inl (tne gx5 gb154398 (by decide)))) hrel
        refine lv_aload_n hx hb dX3_readHouse_176 rfl (lv_at hl 6 rfl) ?_
        refine t_get (C := RX3) (T := TX3) (N := 13) X hT m0 g0 rfl rfl 2 (by decide) qw_162 inlX3 rfl dX3_readHouse_177 (fun v154400 hv154400 ov154400 => ?_)
        obtain rfl : v154400 = .ref x2 := hv154400.symm.trans pf2
        refine t_get (C := RX7) (T := TX7) (N := 7) X hT mx2 gx2 rfl rfl 3 (by decide) qw_376 inlX7 rfl dX3_readHouse_180 (fun v154401 hv154401 ov154401 => ?_)
        obtain ⟨b154402, rfl, mb154402, gb154402⟩ := okV_r ov154401
        have gb154402 : tag b154402 = 5 := tg_of gb154402
        refine lv_iload_n hx hb dX3_readHouse_183 rfl (lv_at hl 5 rfl) ?_
        refine lv_iload hx hb dX3_readHouse_184 (lv_at hl 1 rfl) ?_
        refine t_ist X hT mb154402 gb154402 rfl (by omega) (show (-2147483648) ≤ (z154377 : Int32).toInt ∧ (z154377 : Int32).toInt ≤ 2147483647 from (by omega)) dX3_readHouse_186 (fun F H locs hT v154403 h1v154403 h2v154403 => ?_)
        have pf0 := (h2v154403 _ _).trans pf0
        have pf1 := (h2v154403 _ _).trans pf1
        have pf2 := (h2v154403 _ _).trans pf2
        have pf3 := (h2v154403 _ _).trans pf3
        have pf4 := (h2v154403 _ _).trans pf4
        have pf5 := (h2v154403 _ _).trans pf5
        have pf6 := (h2v154403 _ _).trans pf6
        have hv154359 := (h2v154403 _ _).trans hv154359
        have hv154365 := (h2v154403 _ _).trans hv154365
        have hv154380 := (h2v154403 _ _).trans hv154380
        have hv154389 := (h2v154403 _ _).trans hv154389
        have hv154393 := (h2v154403 _ _).trans hv154393
        have hv154397 := (h2v154403 _ _).trans hv154397
        have hv154401 := (h2v154403 _ _).trans hv154401
        have hfr : ∀ b j : Nat, (tag b ≠ 18 ∨ j ≠ 10) → (tag b ≠ 24 ∨ j ≠ 2) → (tag b ≠ 24 ∨ j ≠ 3) → (tag b ≠ 24 ∨ j ≠ 4) → (tag b ≠ 24 ∨ j ≠ 5) → (tag b ≠ 24 ∨ j ≠ 6) → (tag b ≠ 24 ∨ j ≠ 7) → (tag b ≠ 25 ∨ j ≠ 3) → (tag b ≠ 25 ∨ j ≠ 4) → (tag b ≠ 25 ∨ j ≠ 12) → fld F b j = fld Fo b j := fun b j n18_10 n24_2 n24_3 n24_4 n24_5 n24_6 n24_7 n25_3 n25_4 n25_12 => (h2v154403 b j).trans (hfr b j n18_10 n24_2 n24_3 n24_4 n24_5 n24_6 n24_7 n25_3 n25_4 n25_12)
        have hrel := nsr_of (fun j => h1v154403 _ j (Or.inl (tne gx4 gb154402 (by decide)))) (fun j => h1v154403 _ j (Or.inl (tne gx5 gb154402 (by decide)))) hrel
        refine lv_aload_n hx hb dX3_readHouse_187 rfl (lv_at hl 6 rfl) ?_
        refine t_get (C := RX3) (T := TX3) (N := 13) X hT m0 g0 rfl rfl 2 (by decide) qw_162 inlX3 rfl dX3_readHouse_188 (fun v154404 hv154404 ov154404 => ?_)
        obtain rfl : v154404 = .ref x2 := hv154404.symm.trans pf2
        refine t_get (C := RX7) (T := TX7) (N := 7) X hT mx2 gx2 rfl rfl 4 (by decide) qw_377 inlX7 rfl dX3_readHouse_191 (fun v154405 hv154405 ov154405 => ?_)
        obtain ⟨b154406, rfl, mb154406, gb154406⟩ := okV_r ov154405
        have gb154406 : tag b154406 = 5 := tg_of gb154406
        refine lv_iload_n hx hb dX3_readHouse_194 rfl (lv_at hl 5 rfl) ?_
        refine lv_iload hx hb dX3_readHouse_195 (lv_at hl 0 rfl) ?_
        refine t_ist X hT mb154406 gb154406 rfl (by omega) (show (-2147483648) ≤ (z154379 : Int32).toInt ∧ (z154379 : Int32).toInt ≤ 2147483647 from (by omega)) dX3_readHouse_197 (fun F H locs hT v154407 h1v154407 h2v154407 => ?_)
        have pf0 := (h2v154407 _ _).trans pf0
        have pf1 := (h2v154407 _ _).trans pf1
        have pf2 := (h2v154407 _ _).trans pf2
        have pf3 := (h2v154407 _ _).trans pf3
        have pf4 := (h2v154407 _ _).trans pf4
        have pf5 := (h2v154407 _ _).trans pf5
        have pf6 := (h2v154407 _ _).trans pf6
        have hv154359 := (h2v154407 _ _).trans hv154359
        have hv154365 := (h2v154407 _ _).trans hv154365
        have hv154380 := (h2v154407 _ _).trans hv154380
        have hv154389 := (h2v154407 _ _).trans hv154389
        have hv154393 := (h2v154407 _ _).trans hv154393
        have hv154397 := (h2v154407 _ _).trans hv154397
        have hv154401 := (h2v154407 _ _).trans hv154401
        have hv154405 := (h2v154407 _ _).trans hv154405
        have hfr : ∀ b j : Nat, (tag b ≠ 18 ∨ j ≠ 10) → (tag b ≠ 24 ∨ j ≠ 2) → (tag b ≠ 24 ∨ j ≠ 3) → (tag b ≠ 24 ∨ j ≠ 4) → (tag b ≠ 24 ∨ j ≠ 5) → (tag b ≠ 24 ∨ j ≠ 6) → (tag b ≠ 24 ∨ j ≠ 7) → (tag b ≠ 25 ∨ j ≠ 3) → (tag b ≠ 25 ∨ j ≠ 4) → (tag b ≠ 25 ∨ j ≠ 12) → fld F b j = fld Fo b j := fun b j n18_10 n24_2 n24_3 n24_4 n24_5 n24_6 n24_7 n25_3 n25_4 n25_12 => (h2v154407 b j).trans (hfr b j n18_10 n24_2 n24_3 n24_4 n24_5 n24_6 n24_7 n25_3 n25_4 n25_12)
        have hrel := nsr_of (fun j => h1v154407 _ j (Or.inl (tne gx4 gb154406 (by decide)))) (fun j => h1v154407 _ j (Or.inl (tne gx5 gb154406 (by decide)))) hrel
        refine lv_aload_n hx hb dX3_readHouse_198 rfl (lv_at hl 6 rfl) ?_
        refine t_get (C := RX3) (T := TX3) (N := 13) X hT m0 g0 rfl rfl 1 (by decide) qw_161 inlX3 rfl dX3_readHouse_199 (fun v154408 hv154408 ov154408 => ?_)
        obtain rfl : v154408 = .ref x1 := hv154408.symm.trans pf1
        refine lv_dup hx hb dX3_readHouse_202 rfl ?_
        refine t_get (C := RX1) (T := TX1) (N := 20) X hT mx1 gx1 rfl rfl 10 (by decide) qw_172 inlX1 rfl dX3_readHouse_203 (fun v154409 hv154409 ov154409 => ?_)
        obtain rfl : v154409 = .int x6 := hv154409.symm.trans pf6
        refine lv_iconst (v := 1) hx hb dX3_readHouse_206 (by decide) ?_
        refine lv_iadd hx hb dX3_readHouse_207 ?_
        refine lv_topi (fun z154410 ez154410 => ?_)
        have hz154410 : z154410.toInt = x6.toInt + 1 := ar_add ez154410 (rfl : x6.toInt = x6.toInt) (by decide : (1 : Int32).toInt = 1) (by omega) (by omega)
        have rz154410 : 1 ≤ z154410.toInt ∧ z154410.toInt ≤ 4 := by omega
        refine t_put (C := RX1) (T := TX1) (N := 20) (v := .int z154410) X hT mx1 gx1 rfl tyX1 tyX1_ok nmX1 rfl 10 (by decide) qw_172 inlX1 rfl (by first | rfl | decide) (by first | rfl | decide) rfl (⟨_, rfl, (show 0 ≤ (z154410 : Int32).toInt from (by omega)), (show (z154410 : Int32).toInt ≤ 4 from (by omega))⟩) dX3_readHouse_208 (fun F H locs hT v154411 h1v154411 h2v154411 => ?_)
        have pf0 := (h1v154411 _ _ (Or.inr (by decide))).trans pf0
        have pf1 := (h1v154411 _ _ (Or.inr (by decide))).trans pf1
        have pf2 := (h1v154411 _ _ (Or.inr (by decide))).trans pf2
        have pf3 := (h1v154411 _ _ (Or.inr (by decide))).trans pf3
        have pf4 := (h1v154411 _ _ (Or.inl (tne g0 gx1 (by decide)))).trans pf4
        have pf5 := (h1v154411 _ _ (Or.inr (by decide))).trans pf5
        have hv154359 := (h1v154411 _ _ (Or.inr (by decide))).trans hv154359
        have hv154365 := (h1v154411 _ _ (Or.inr (by decide))).trans hv154365
        have hv154380 := (h1v154411 _ _ (Or.inr (by decide))).trans hv154380
        have hv154389 := (h1v154411 _ _ (Or.inr (by decide))).trans hv154389
        have hv154393 := (h1v154411 _ _ (Or.inr (by decide))).trans hv154393
        have hv154397 := (h1v154411 _ _ (Or.inr (by decide))).trans hv154397
        have hv154401 := (h1v154411 _ _ (Or.inr (by decide))).trans hv154401
        have hv154405 := (h1v154411 _ _ (Or.inr (by decide))).trans hv154405
        have v154407 := (h2v154411 _ _).trans v154407
        have hfr : ∀ b j : Nat, (tag b ≠ 18 ∨ j ≠ 10) → (tag b ≠ 24 ∨ j ≠ 2) → (tag b ≠ 24 ∨ j ≠ 3) → (tag b ≠ 24 ∨ j ≠ 4) → (tag b ≠ 24 ∨ j ≠ 5) → (tag b ≠ 24 ∨ j ≠ 6) → (tag b ≠ 24 ∨ j ≠ 7) → (tag b ≠ 25 ∨ j ≠ 3) → (tag b ≠ 25 ∨ j ≠ 4) → (tag b ≠ 25 ∨ j ≠ 12) → fld F b j = fld Fo b j := fun b j n18_10 n24_2 n24_3 n24_4 n24_5 n24_6 n24_7 n25_3 n25_4 n25_12 => (h1v154411 b j (fr_ne gx1 n18_10)).trans (hfr b j n18_10 n24_2 n24_3 n24_4 n24_5 n24_6 n24_7 n25_3 n25_4 n25_12)
        have hrel := nsr_of (fun j => h2v154411 _ j) (fun j => h2v154411 _ j) hrel
        exact t_vret hQ X hT ⟨hfr, hrel⟩ (Nat.le_of_ble_eq_true rfl) (Nat.le_of_ble_eq_true rfl) dX3_readHouse_211
  · have w154412 := cv_eq (rfl : z154371.toInt = z154371.toInt) (by decide : (0 : Int32).toInt = 0) c154372
    refine lv_aload_n hx hb dX3_readHouse_73 rfl (lv_at hl 3 rfl) ?_
    refine lv_bipush (v := 7) hx hb dX3_readHouse_74 (by decide) ?_
    refine lv_aload_n hx hb dX3_readHouse_76 rfl (lv_at hl 3 rfl) ?_
    refine t_get (C := RX3) (T := TX3) (N := 13) X hT m0 g0 rfl rfl 0 (by decide) qw_73 inlX3 rfl dX3_readHouse_77 (fun v154413 hv154413 ov154413 => ?_)
    obtain rfl : v154413 = .ref x0 := hv154413.symm.trans pf0
    refine t_get (C := RX8) (T := TX8) (N := 8) X hT mx0 gx0 rfl rfl 5 (by decide) qw_339 inlX8 rfl dX3_readHouse_80 (fun v154414 hv154414 ov154414 => ?_)
    obtain ⟨z154415, rfl, rz154415⟩ := okV_i ov154414
    refine t_cVv (n := 2) (C := RX3) (T := TX3) (N := 13) (As := [.int 7, .int z154415]) (rest := []) X hT (kt432_X3_fail l G tag L F hT.2.2.2 p0 7 z154415 m0 g0 (by decide)) m0 g0 rfl rfl qw_287 qw_288 qw_289 qw_28 qw_290 ⟨rfl, by decide +kernel, by decide +kernel, by decide +kernel⟩ ⟨Nat.le_of_ble_eq_true rfl, Nat.le_of_ble_eq_true rfl⟩ hl rfl rfl (Nat.le_of_ble_eq_true rfl) dX3_readHouse_83 ⟨Nat.le_of_ble_eq_true rfl, Nat.le_of_ble_eq_true rfl⟩ (fun F H locs hT hz154416 => ?_)
    obtain ⟨yz154416, xz154416_0⟩ := hz154416
    have pf0 := (yz154416.1 _ 0 (Or.inr (by decide)) (Or.inr (by decide))).trans pf0
    have pf1 := (yz154416.1 _ 1 (Or.inr (by decide)) (Or.inr (by decide))).trans pf1
    have pf2 := (yz154416.1 _ 2 (Or.inr (by decide)) (Or.inr (by decide))).trans pf2
    have pf3 := (yz154416.1 _ 0 (Or.inr (by decide)) (Or.inr (by decide))).trans pf3
    have pf4 := (yz154416.1 _ 10 (Or.inr (by decide)) (Or.inr (by decide))).trans pf4
    have pf5 := (yz154416.1 _ 11 (Or.inr (by decide)) (Or.inr (by decide))).trans pf5
    have pf6 := (yz154416.1 _ 10 (Or.inr (by decide)) (Or.inr (by decide))).trans pf6
    have hv154359 := (yz154416.1 _ 0 (Or.inr (by decide)) (Or.inr (by decide))).trans hv154359
    have hv154365 := (yz154416.1 _ 1 (Or.inr (by decide)) (Or.inr (by decide))).trans hv154365
    have hv154414 := (yz154416.1 _ 5 (Or.inr (by decide)) (Or.inr (by decide))).trans hv154414
    have hfr : ∀ b j : Nat, (tag b ≠ 18 ∨ j ≠ 10) → (tag b ≠ 24 ∨ j ≠ 2) → (tag b ≠ 24 ∨ j ≠ 3) → (tag b ≠ 24 ∨ j ≠ 4) → (tag b ≠ 24 ∨ j ≠ 5) → (tag b ≠ 24 ∨ j ≠ 6) → (tag b ≠ 24 ∨ j ≠ 7) → (tag b ≠ 25 ∨ j ≠ 3) → (tag b ≠ 25 ∨ j ≠ 4) → (tag b ≠ 25 ∨ j ≠ 12) → fld F b j = fld Fo b j := fun b j n18_10 n24_2 n24_3 n24_4 n24_5 n24_6 n24_7 n25_3 n25_4 n25_12 => (yz154416.1 b j n25_3 n25_4).trans (hfr b j n18_10 n24_2 n24_3 n24_4 n24_5 n24_6 n24_7 n25_3 n25_4 n25_12)
    have hrel := nsr_of (fun j => yz154416.2 _ j (Or.inl gx4)) (fun j => yz154416.2 _ j (Or.inr gx5)) hrel
    obtain ⟨z154417, qz154417, rz154417⟩ := xz154416_0
    refine lv_aload_n hx hb dX3_readHouse_86 rfl (lv_at hl 3 rfl) ?_
    refine m_ldcKw X 31 rfl dX3_readHouse_87 ?_
    refine t_cVv (n := 1) (C := RX3) (T := TX3) (N := 13) (As := [.ref (G.2 (100 + 31))]) (rest := []) X hT (kt450_X3_word l G tag L F hT.2.2.2 p0 31 x0 x1 x2 x3 x4 x5 m0 g0 (by decide) mx0 gx0 pf0 mx1 gx1 pf1 mx2 gx2 pf2 mx3 gx3 pf3 mx4 gx4 pf4 mx5 gx5 pf5) m0 g0 rfl rfl qw_314 qw_315 qw_316 qw_28 qw_317 ⟨rfl, by decide +kernel, by decide +kernel, by decide +kernel⟩ ⟨Nat.le_of_ble_eq_true rfl, Nat.le_of_ble_eq_true rfl⟩ hl rfl rfl (Nat.le_of_ble_eq_true rfl) dX3_readHouse_90 ⟨Nat.le_of_ble_eq_true rfl, Nat.le_of_ble_eq_true rfl⟩ (fun F H locs hT hz154418 => ?_)
    have yz154418 := hz154418
    have pf0 := (yz154418.1 _ 0 (Or.inr (by decide)) (Or.inr (by decide)) (Or.inr (by decide)) (Or.inr (by decide)) (Or.inr (by decide)) (Or.inr (by decide)) (Or.inr (by decide)) (Or.inr (by decide))).trans pf0
    have pf1 := (yz154418.1 _ 1 (Or.inr (by decide)) (Or.inr (by decide)) (Or.inr (by decide)) (Or.inr (by decide)) (Or.inr (by decide)) (Or.inr (by decide)) (Or.inr (by decide)) (Or.inr (by decide))).trans pf1
    have pf2 := (yz154418.1 _ 2 (Or.inl (by rw [g0]; decide)) (Or.inr (by decide)) (Or.inr (by decide)) (Or.inr (by decide)) (Or.inr (by decide)) (Or.inr (by decide)) (Or.inr (by decide)) (Or.inr (by decide))).trans pf2
    have pf3 := (yz154418.1 _ 0 (Or.inr (by decide)) (Or.inr (by decide)) (Or.inr (by decide)) (Or.inr (by decide)) (Or.inr (by decide)) (Or.inr (by decide)) (Or.inr (by decide)) (Or.inr (by decide))).trans pf3
    have pf4 := (yz154418.1 _ 10 (Or.inr (by decide)) (Or.inr (by decide)) (Or.inr (by decide)) (Or.inr (by decide)) (Or.inr (by decide)) (Or.inr (by decide)) (Or.inr (by decide)) (Or.inr (by decide))).trans pf4
    have pf5 := (yz154418.1 _ 11 (Or.inr (by decide)) (Or.inr (by decide)) (Or.inr (by decide)) (Or.inr (by decide)) (Or.inr (by decide)) (Or.inr (by decide)) (Or.inr (by decide)) (Or.inr (by decide))).trans pf5
    have pf6 := (yz154418.1 _ 10 (Or.inr (by decide)) (Or.inr (by decide)) (Or.inr (by decide)) (Or.inr (by decide)) (Or.inr (by decide)) (Or.inr (by decide)) (Or.inr (by decide)) (Or.inr (by decide))).trans pf6
    have hv154359 := (yz154418.1 _ 0 (Or.inr (by decide)) (Or.inr (by decide)) (Or.inr (by decide)) (Or.inr (by decide)) (Or.inr (by decide)) (Or.inr (by decide)) (Or.inr (by decide)) (Or.inr (by decide))).trans hv154359
    have hv154365 := (yz154418.1 _ 1 (Or.inr (by decide)) (Or.inr (by decide)) (Or.inr (by decide)) (Or.inr (by decide)) (Or.inr (by decide)) (Or.inr (by decide)) (Or.inr (by decide)) (Or.inr (by decide))).trans hv154365
    have hfr : ∀ b j : Nat, (tag b ≠ 18 ∨ j ≠ 10) → (tag b ≠ 24 ∨ j ≠ 2) → (tag b ≠ 24 ∨ j ≠ 3) → (tag b ≠ 24 ∨ j ≠ 4) → (tag b ≠ 24 ∨ j ≠ 5) → (tag b ≠ 24 ∨ j ≠ 6) → (tag b ≠ 24 ∨ j ≠ 7) → (tag b ≠ 25 ∨ j ≠ 3) → (tag b ≠ 25 ∨ j ≠ 4) → (tag b ≠ 25 ∨ j ≠ 12) → fld F b j = fld Fo b j := fun b j n18_10 n24_2 n24_3 n24_4 n24_5 n24_6 n24_7 n25_3 n25_4 n25_12 => (yz154418.1 b j n24_2 n24_3 n24_4 n24_5 n24_6 n24_7 n25_3 n25_4).trans (hfr b j n18_10 n24_2 n24_3 n24_4 n24_5 n24_6 n24_7 n25_3 n25_4 n25_12)
    have hrel := nsr_of (fun j => yz154418.2 _ j (Or.inl gx4)) (fun j => yz154418.2 _ j (Or.inr gx5)) hrel
    refine lv_aload_n hx hb dX3_readHouse_93 rfl (lv_at hl 3 rfl) ?_
    refine lv_iconst (v := 3) hx hb dX3_readHouse_94 (by decide) ?_
    refine t_cVi (n := 1) (C := RX3) (T := TX3) (N := 13) (As := [.int 3]) (rest := []) X hT (kt453_X3_name l G tag L F hT.2.2.2 p0 3 x0 x1 x2 x3 x4 x5 m0 g0 (by decide) mx0 gx0 pf0 mx1 gx1 pf1 mx2 gx2 pf2 mx3 gx3 pf3 mx4 gx4 pf4 mx5 gx5 pf5 hrel) m0 g0 rfl rfl qw_393 qw_394 qw_395 qw_28 qw_396 ⟨rfl, by decide +kernel, by decide +kernel, by decide +kernel⟩ ⟨Nat.le_of_ble_eq_true rfl, Nat.le_of_ble_eq_true rfl⟩ hl rfl rfl (Nat.le_of_ble_eq_true rfl) dX3_readHouse_95 ⟨Nat.le_of_ble_eq_true rfl, Nat.le_of_ble_eq_true rfl⟩ (fun z154419 F H locs hT hz154419 => ?_)
    obtain ⟨hz154419, yz154419, hrel⟩ := hz154419
    have pf0 := (yz154419.1 _ 0 (Or.inr (by decide)) (Or.inr (by decide)) (Or.inr (by decide)) (Or.inr (by decide)) (Or.inr (by decide)) (Or.inr (by decide)) (Or.inr (by decide)) (Or.inr (by decide))).trans pf0
    have pf1 := (yz154419.1 _ 1 (Or.inr (by decide)) (Or.inr (by decide)) (Or.inr (by decide)) (Or.inr (by decide)) (Or.inr (by decide)) (Or.inr (by decide)) (Or.inr (by decide)) (Or.inr (by decide))).trans pf1
    have pf2 := (yz154419.1 _ 2 (Or.inl (by rw [g0]; decide)) (Or.inr (by decide)) (Or.inr (by decide)) (Or.inr (by decide)) (Or.inr (by decide)) (Or.inr (by decide)) (Or.inr (by decide)) (Or.inr (by decide))).trans pf2
    have pf3 := (yz154419.1 _ 0 (Or.inr (by decide)) (Or.inr (by decide)) (Or.inr (by decide)) (Or.inr (by decide)) (Or.inr (by decide)) (Or.inr (by decide)) (Or.inr (by decide)) (Or.inr (by decide))).trans pf3
    have pf4 := (yz154419.1 _ 10 (Or.inr (by decide)) (Or.inr (by decide)) (Or.inr (by decide)) (Or.inr (by decide)) (Or.inr (by decide)) (Or.inr (by decide)) (Or.inr (by decide)) (Or.inr (by decide))).trans pf4
    have pf5 := (yz154419.1 _ 11 (Or.inr (by decide)) (Or.inr (by decide)) (Or.inr (by decide)) (Or.inr (by decide)) (Or.inr (by decide)) (Or.inr (by decide)) (Or.inr (by decide)) (Or.inr (by decide))).trans pf5
    have pf6 := (yz154419.1 _ 10 (Or.inr (by decide)) (Or.inr (by decide)) (Or.inr (by decide)) (Or.inr (by decide)) (Or.inr (by decide)) (Or.inr (by decide)) (Or.inr (by decide)) (Or.inr (by decide))).trans pf6
    have hv154359 := (yz154419.1 _ 0 (Or.inr (by decide)) (Or.inr (by decide)) (Or.inr (by decide)) (Or.inr (by decide)) (Or.inr (by decide)) (Or.inr (by decide)) (Or.inr (by decide)) (Or.inr (by decide))).trans hv154359
    have hv154365 := (yz154419.1 _ 1 (Or.inr (by decide)) (Or.inr (by decide)) (Or.inr (by decide)) (Or.inr (by decide)) (Or.inr (by decide)) (Or.inr (by decide)) (Or.inr (by decide)) (Or.inr (by decide))).trans hv154365
    have hfr : ∀ b j : Nat, (tag b ≠ 18 ∨ j ≠ 10) → (tag b ≠ 24 ∨ j ≠ 2) → (tag b ≠ 24 ∨ j ≠ 3) → (tag b ≠ 24 ∨ j ≠ 4) → (tag b ≠ 24 ∨ j ≠ 5) → (tag b ≠ 24 ∨ j ≠ 6) → (tag b ≠ 24 ∨ j ≠ 7) → (tag b ≠ 25 ∨ j ≠ 3) → (tag b ≠ 25 ∨ j ≠ 4) → (tag b ≠ 25 ∨ j ≠ 12) → fld F b j = fld Fo b j := fun b j n18_10 n24_2 n24_3 n24_4 n24_5 n24_6 n24_7 n25_3 n25_4 n25_12 => (yz154419.1 b j n24_2 n24_3 n24_4 n24_5 n24_6 n24_7 n25_3 n25_4).trans (hfr b j n18_10 n24_2 n24_3 n24_4 n24_5 n24_6 n24_7 n25_3 n25_4 n25_12)
    refine lv_istore (lv' := [(4, .int z154419), (3, .int z154368), (2, .int z154362), (1, .int x6), (0, .ref p0)]) hx hb dX3_readHouse_98 hl (by decide) rfl (fun ls hl => ?_)
    refine lv_aload_n hx hb dX3_readHouse_100 rfl (lv_at hl 4 rfl) ?_
    refine m_ldcKw X 32 rfl dX3_readHouse_101 ?_
    refine t_cVv (n := 1) (C := RX3) (T := TX3) (N := 13) (As := [.ref (G.2 (100 + 32))]) (rest := []) X hT (kt450_X3_word l G tag L F hT.2.2.2 p0 32 x0 x1 x2 x3 x4 x5 m0 g0 (by decide) mx0 gx0 pf0 mx1 gx1 pf1 mx2 gx2 pf2 mx3 gx3 pf3 mx4 gx4 pf4 mx5 gx5 pf5) m0 g0 rfl rfl qw_314 qw_315 qw_316 qw_28 qw_317 ⟨rfl, by decide +kernel, by decide +kernel, by decide +kernel⟩ ⟨Nat.le_of_ble_eq_true rfl, Nat.le_of_ble_eq_true rfl⟩ hl rfl rfl (Nat.le_of_ble_eq_true rfl) dX3_readHouse_104 ⟨Nat.le_of_ble_eq_true rfl, Nat.le_of_ble_eq_true rfl⟩ (fun F H locs hT hz154420 => ?_)
    have yz154420 := hz154420
    have pf0 := (yz154420.1 _ 0 (Or.inr (by decide)) (Or.inr (by decide)) (Or.inr (by decide)) (Or.inr (by decide)) (Or.inr (by decide)) (Or.inr (by decide)) (Or.inr (by decide)) (Or.inr (by decide))).trans pf0
    have pf1 := (yz154420.1 _ 1 (Or.inr (by decide)) (Or.inr (by decide)) (Or.inr (by decide)) (Or.inr (by decide)) (Or.inr (by decide)) (Or.inr (by decide)) (Or.inr (by decide)) (Or.inr (by decide))).trans pf1
    have pf2 := (yz154420.1 _ 2 (Or.inl (by rw [g0]; decide)) (Or.inr (by decide)) (Or.inr (by decide)) (Or.inr (by decide)) (Or.inr (by decide)) (Or.inr (by decide)) (Or.inr (by decide)) (Or.inr (by decide))).trans pf2
    have pf3 := (yz154420.1 _ 0 (Or.inr (by decide)) (Or.inr (by decide)) (Or.inr (by decide)) (Or.inr (by decide)) (Or.inr (by decide)) (Or.inr (by decide)) (Or.inr (by decide)) (Or.inr (by decide))).trans pf3
    have pf4 := (yz154420.1 _ 10 (Or.inr (by decide)) (Or.inr (by decide)) (Or.inr (by decide)) (Or.inr (by decide)) (Or.inr (by decide)) (Or.inr (by decide)) (Or.inr (by decide)) (Or.inr (by decide))).trans pf4
    have pf5 := (yz154420.1 _ 11 (Or.inr (by decide)) (Or.inr (by decide)) (Or.inr (by decide)) (Or.inr (by decide)) (Or.inr (by decide)) (Or.inr (by decide)) (Or.inr (by decide)) (Or.inr (by decide))).trans pf5
    have pf6 := (yz154420.1 _ 10 (Or.inr (by decide)) (Or.inr (by decide)) (Or.inr (by decide)) (Or.inr (by decide)) (Or.inr (by decide)) (Or.inr (by decide)) (Or.inr (by decide)) (Or.inr (by decide))).trans pf6
    have hv154359 := (yz154420.1 _ 0 (Or.inr (by decide)) (Or.inr (by decide)) (Or.inr (by decide)) (Or.inr (by decide)) (Or.inr (by decide)) (Or.inr (by decide)) (Or.inr (by decide)) (Or.inr (by decide))).trans hv154359
    have hv154365 := (yz154420.1 _ 1 (Or.inr (by decide)) (Or.inr (by decide)) (Or.inr (by decide)) (Or.inr (by decide)) (Or.inr (by decide)) (Or.inr (by decide)) (Or.inr (by decide)) (Or.inr (by decide))).trans hv154365
    have hfr : ∀ b j : Nat, (tag b ≠ 18 ∨ j ≠ 10) → (tag b ≠ 24 ∨ j ≠ 2) → (tag b ≠ 24 ∨ j ≠ 3) → (tag b ≠ 24 ∨ j ≠ 4) → (tag b ≠ 24 ∨ j ≠ 5) → (tag b ≠ 24 ∨ j ≠ 6) → (tag b ≠ 24 ∨ j ≠ 7) → (tag b ≠ 25 ∨ j ≠ 3) → (tag b ≠ 25 ∨ j ≠ 4) → (tag b ≠ 25 ∨ j ≠ 12) → fld F b j = fld Fo b j := fun b j n18_10 n24_2 n24_3 n24_4 n24_5 n24_6 n24_7 n25_3 n25_4 n25_12 => (yz154420.1 b j n24_2 n24_3 n24_4 n24_5 n24_6 n24_7 n25_3 n25_4).trans (hfr b j n18_10 n24_2 n24_3 n24_4 n24_5 n24_6 n24_7 n25_3 n25_4 n25_12)
    have hrel := nsr_of (fun j => yz154420.2 _ j (Or.inl gx4)) (fun j => yz154420.2 _ j (Or.inr gx5)) hrel
    refine lv_aload_n hx hb dX3_readHouse_107 rfl (lv_at hl 4 rfl) ?_
    refine lv_iconst (v := 0) hx hb dX3_readHouse_108 (by decide) ?_
    refine lv_bipush (v := 99) hx hb dX3_readHouse_109 (by decide) ?_
    refine t_cVi (n := 2) (C := RX3) (T := TX3) (N := 13) (As := [.int 0, .int 99]) (rest := []) X hT (kt454_X3_whole l G tag L F hT.2.2.2 p0 0 99 x0 x1 x2 x3 x4 x5 m0 g0 (by decide) (by decide) mx0 gx0 pf0 mx1 gx1 pf1 mx2 gx2 pf2 mx3 gx3 pf3 mx4 gx4 pf4 mx5 gx5 pf5) m0 g0 rfl rfl qw_318 qw_319 qw_320 qw_28 qw_321 ⟨rfl, by decide +kernel, by decide +kernel, by decide +kernel⟩ ⟨Nat.le_of_ble_eq_true rfl, Nat.le_of_ble_eq_true rfl⟩ hl rfl rfl (Nat.le_of_ble_eq_true rfl) dX3_readHouse_111 ⟨Nat.le_of_ble_eq_true rfl, Nat.le_of_ble_eq_true rfl⟩ (fun z154421 F H locs hT hz154421 => ?_)
    obtain ⟨hz154421, yz154421⟩ := hz154421
    have pf0 := (yz154421.1 _ 0 (Or.inr (by decide)) (Or.inr (by decide)) (Or.inr (by decide)) (Or.inr (by decide)) (Or.inr (by decide)) (Or.inr (by decide)) (Or.inr (by decide)) (Or.inr (by decide))).trans pf0
    have pf1 := (yz154421.1 _ 1 (Or.inr (by decide)) (Or.inr (by decide)) (Or.inr (by decide)) (Or.inr (by decide)) (Or.inr (by decide)) (Or.inr (by decide)) (Or.inr (by decide)) (Or.inr (by decide))).trans pf1
    have pf2 := (yz154421.1 _ 2 (Or.inl (by rw [g0]; decide)) (Or.inr (by decide)) (Or.inr (by decide)) (Or.inr (by decide)) (Or.inr (by decide)) (Or.inr (by decide)) (Or.inr (by decide)) (Or.inr (by decide))).trans pf2
    have pf3 := (yz154421.1 _ 0 (Or.inr (by decide)) (Or.inr (by decide)) (Or.inr (by decide)) (Or.inr (by decide)) (Or.inr (by decide)) (Or.inr (by decide)) (Or.inr (by decide)) (Or.inr (by decide))).trans pf3
    have pf4 := (yz154421.1 _ 10 (Or.inr (by decide)) (Or.inr (by decide)) (Or.inr (by decide)) (Or.inr (by decide)) (Or.inr (by decide)) (Or.inr (by decide)) (Or.inr (by decide)) (Or.inr (by decide))).trans pf4
    have pf5 := (yz154421.1 _ 11 (Or.inr (by decide)) (Or.inr (by decide)) (Or.inr (by decide)) (Or.inr (by decide)) (Or.inr (by decide)) (Or.inr (by decide)) (Or.inr (by decide)) (Or.inr (by decide))).trans pf5
    have pf6 := (yz154421.1 _ 10 (Or.inr (by decide)) (Or.inr (by decide)) (Or.inr (by decide)) (Or.inr (by decide)) (Or.inr (by decide)) (Or.inr (by decide)) (Or.inr (by decide)) (Or.inr (by decide))).trans pf6
    have hv154359 := (yz154421.1 _ 0 (Or.inr (by decide)) (Or.inr (by decide)) (Or.inr (by decide)) (Or.inr (by decide)) (Or.inr (by decide)) (Or.inr (by decide)) (Or.inr (by decide)) (Or.inr (by decide))).trans hv154359
    have hv154365 := (yz154421.1 _ 1 (Or.inr (by decide)) (Or.inr (by decide)) (Or.inr (by decide)) (Or.inr (by decide)) (Or.inr (by decide)) (Or.inr (by decide)) (Or.inr (by decide)) (Or.inr (by decide))).trans hv154365
    have hfr : ∀ b j : Nat, (tag b ≠ 18 ∨ j ≠ 10) → (tag b ≠ 24 ∨ j ≠ 2) → (tag b ≠ 24 ∨ j ≠ 3) → (tag b ≠ 24 ∨ j ≠ 4) → (tag b ≠ 24 ∨ j ≠ 5) → (tag b ≠ 24 ∨ j ≠ 6) → (tag b ≠ 24 ∨ j ≠ 7) → (tag b ≠ 25 ∨ j ≠ 3) → (tag b ≠ 25 ∨ j ≠ 4) → (tag b ≠ 25 ∨ j ≠ 12) → fld F b j = fld Fo b j := fun b j n18_10 n24_2 n24_3 n24_4 n24_5 n24_6 n24_7 n25_3 n25_4 n25_12 => (yz154421.1 b j n24_2 n24_3 n24_4 n24_5 n24_6 n24_7 n25_3 n25_4).trans (hfr b j n18_10 n24_2 n24_3 n24_4 n24_5 n24_6 n24_7 n25_3 n25_4 n25_12)
    have hrel := nsr_of (fun j => yz154421.2 _ j (Or.inl gx4)) (fun j => yz154421.2 _ j (Or.inr gx5)) hrel
    refine lv_istore (lv' := [(5, .int z154421), (4, .int z154419), (3, .int z154368), (2, .int z154362), (1, .int x6), (0, .ref p0)]) hx hb dX3_readHouse_114 hl (by decide) rfl (fun ls hl => ?_)
    refine lv_aload_n hx hb dX3_readHouse_116 rfl (lv_at hl 5 rfl) ?_
    refine m_ldcKw X 33 rfl dX3_readHouse_117 ?_
    refine t_cVv (n := 1) (C := RX3) (T := TX3) (N := 13) (As := [.ref (G.2 (100 + 33))]) (rest := []) X hT (kt450_X3_word l G tag L F hT.2.2.2 p0 33 x0 x1 x2 x3 x4 x5 m0 g0 (by decide) mx0 gx0 pf0 mx1 gx1 pf1 mx2 gx2 pf2 mx3 gx3 pf3 mx4 gx4 pf4 mx5 gx5 pf5) m0 g0 rfl rfl qw_314 qw_315 qw_316 qw_28 qw_317 ⟨rfl, by decide +kernel, by decide +kernel, by decide +kernel⟩ ⟨Nat.le_of_ble_eq_true rfl, Nat.le_of_ble_eq_true rfl⟩ hl rfl rfl (Nat.le_of_ble_eq_true rfl) dX3_readHouse_120 ⟨Nat.le_of_ble_eq_true rfl, Nat.le_of_ble_eq_true rfl⟩ (fun F H locs hT hz154422 => ?_)
    have yz154422 := hz154422
    have pf0 := (yz154422.1 _ 0 (Or.inr (by decide)) (Or.inr (by decide)) (Or.inr (by decide)) (Or.inr (by decide)) (Or.inr (by decide)) (Or.inr (by decide)) (Or.inr (by decide)) (Or.inr (by decide))).trans pf0
    have pf1 := (yz154422.1 _ 1 (Or.inr (by decide)) (Or.inr (by decide)) (Or.inr (by decide)) (Or.inr (by decide)) (Or.inr (by decide)) (Or.inr (by decide)) (Or.inr (by decide)) (Or.inr (by decide))).trans pf1
    have pf2 := (yz154422.1 _ 2 (Or.inl (by rw [g0]; decide)) (Or.inr (by decide)) (Or.inr (by decide)) (Or.inr (by decide)) (Or.inr (by decide)) (Or.inr (by decide)) (Or.inr (by decide)) (Or.inr (by decide))).trans pf2
    have pf3 := (yz154422.1 _ 0 (Or.inr (by decide)) (Or.inr (by decide)) (Or.inr (by decide)) (Or.inr (by decide)) (Or.inr (by decide)) (Or.inr (by decide)) (Or.inr (by decide)) (Or.inr (by decide))).trans pf3
    have pf4 := (yz154422.1 _ 10 (Or.inr (by decide)) (Or.inr (by decide)) (Or.inr (by decide)) (Or.inr (by decide)) (Or.inr (by decide)) (Or.inr (by decide)) (Or.inr (by decide)) (Or.inr (by decide))).trans pf4
    have pf5 := (yz154422.1 _ 11 (Or.inr (by decide)) (Or.inr (by decide)) (Or.inr (by decide)) (Or.inr (by decide)) (Or.inr (by decide)) (Or.inr (by decide)) (Or.inr (by decide)) (Or.inr (by decide))).trans pf5
    have pf6 := (yz154422.1 _ 10 (Or.inr (by decide)) (Or.inr (by decide)) (Or.inr (by decide)) (Or.inr (by decide)) (Or.inr (by decide)) (Or.inr (by decide)) (Or.inr (by decide)) (Or.inr (by decide))).trans pf6
    have hv154359 := (yz154422.1 _ 0 (Or.inr (by decide)) (Or.inr (by decide)) (Or.inr (by decide)) (Or.inr (by decide)) (Or.inr (by decide)) (Or.inr (by decide)) (Or.inr (by decide)) (Or.inr (by decide))).trans hv154359
    have hv154365 := (yz154422.1 _ 1 (Or.inr (by decide)) (Or.inr (by decide)) (Or.inr (by decide)) (Or.inr (by decide)) (Or.inr (by decide)) (Or.inr (by decide)) (Or.inr (by decide)) (Or.inr (by decide))).trans hv154365
    have hfr : ∀ b j : Nat, (tag b ≠ 18 ∨ j ≠ 10) → (tag b ≠ 24 ∨ j ≠ 2) → (tag b ≠ 24 ∨ j ≠ 3) → (tag b ≠ 24 ∨ j ≠ 4) → (tag b ≠ 24 ∨ j ≠ 5) → (tag b ≠ 24 ∨ j ≠ 6) → (tag b ≠ 24 ∨ j ≠ 7) → (tag b ≠ 25 ∨ j ≠ 3) → (tag b ≠ 25 ∨ j ≠ 4) → (tag b ≠ 25 ∨ j ≠ 12) → fld F b j = fld Fo b j := fun b j n18_10 n24_2 n24_3 n24_4 n24_5 n24_6 n24_7 n25_3 n25_4 n25_12 => (yz154422.1 b j n24_2 n24_3 n24_4 n24_5 n24_6 n24_7 n25_3 n25_4).trans (hfr b j n18_10 n24_2 n24_3 n24_4 n24_5 n24_6 n24_7 n25_3 n25_4 n25_12)
    have hrel := nsr_of (fun j => yz154422.2 _ j (Or.inl gx4)) (fun j => yz154422.2 _ j (Or.inr gx5)) hrel
    refine lv_aload_n hx hb dX3_readHouse_123 rfl (lv_at hl 5 rfl) ?_
    refine lv_iconst (v := 0) hx hb dX3_readHouse_124 (by decide) ?_
    refine lv_sipush (v := 999) hx hb dX3_readHouse_125 (by decide) ?_
    refine t_cVi (n := 2) (C := RX3) (T := TX3) (N := 13) (As := [.int 0, .int 999]) (rest := []) X hT (kt455_X3_whole l G tag L F hT.2.2.2 p0 0 999 x0 x1 x2 x3 x4 x5 m0 g0 (by decide) (by decide) mx0 gx0 pf0 mx1 gx1 pf1 mx2 gx2 pf2 mx3 gx3 pf3 mx4 gx4 pf4 mx5 gx5 pf5) m0 g0 rfl rfl qw_318 qw_319 qw_320 qw_28 qw_321 ⟨rfl, by decide +kernel, by decide +kernel, by decide +kernel⟩ ⟨Nat.le_of_ble_eq_true rfl, Nat.le_of_ble_eq_true rfl⟩ hl rfl rfl (Nat.le_of_ble_eq_true rfl) dX3_readHouse_128 ⟨Nat.le_of_ble_eq_true rfl, Nat.le_of_ble_eq_true rfl⟩ (fun z154423 F H locs hT hz154423 => ?_)
    obtain ⟨hz154423, yz154423⟩ := hz154423
    have pf0 := (yz154423.1 _ 0 (Or.inr (by decide)) (Or.inr (by decide)) (Or.inr (by decide)) (Or.inr (by decide)) (Or.inr (by decide)) (Or.inr (by decide)) (Or.inr (by decide)) (Or.inr (by decide))).trans pf0
    have pf1 := (yz154423.1 _ 1 (Or.inr (by decide)) (Or.inr (by decide)) (Or.inr (by decide)) (Or.inr (by decide)) (Or.inr (by decide)) (Or.inr (by decide)) (Or.inr (by decide)) (Or.inr (by decide))).trans pf1
    have pf2 := (yz154423.1 _ 2 (Or.inl (by rw [g0]; decide)) (Or.inr (by decide)) (Or.inr (by decide)) (Or.inr (by decide)) (Or.inr (by decide)) (Or.inr (by decide)) (Or.inr (by decide)) (Or.inr (by decide))).trans pf2
    have pf3 := (yz154423.1 _ 0 (Or.inr (by decide)) (Or.inr (by decide)) (Or.inr (by decide)) (Or.inr (by decide)) (Or.inr (by decide)) (Or.inr (by decide)) (Or.inr (by decide)) (Or.inr (by decide))).trans pf3
    have pf4 := (yz154423.1 _ 10 (Or.inr (by decide)) (Or.inr (by decide)) (Or.inr (by decide)) (Or.inr (by decide)) (Or.inr (by decide)) (Or.inr (by decide)) (Or.inr (by decide)) (Or.inr (by decide))).trans pf4
    have pf5 := (yz154423.1 _ 11 (Or.inr (by decide)) (Or.inr (by decide)) (Or.inr (by decide)) (Or.inr (by decide)) (Or.inr (by decide)) (Or.inr (by decide)) (Or.inr (by decide)) (Or.inr (by decide))).trans pf5
    have pf6 := (yz154423.1 _ 10 (Or.inr (by decide)) (Or.inr (by decide)) (Or.inr (by decide)) (Or.inr (by decide)) (Or.inr (by decide)) (Or.inr (by decide)) (Or.inr (by decide)) (Or.inr (by decide))).trans pf6
    have hv154359 := (yz154423.1 _ 0 (Or.inr (by decide)) (Or.inr (by decide)) (Or.inr (by decide)) (Or.inr (by decide)) (Or.inr (by decide)) (Or.inr (by decide)) (Or.inr (by decide)) (Or.inr (by decide))).trans hv154359
    have hv154365 := (yz154423.1 _ 1 (Or.inr (by decide)) (Or.inr (by decide)) (Or.inr (by decide)) (Or.inr (by decide)) (Or.inr (by decide)) (Or.inr (by decide)) (Or.inr (by decide)) (Or.inr (by decide))).trans hv154365
    have hfr : ∀ b j : Nat, (tag b ≠ 18 ∨ j ≠ 10) → (tag b ≠ 24 ∨ j ≠ 2) → (tag b ≠ 24 ∨ j ≠ 3) → (tag b ≠ 24 ∨ j ≠ 4) → (tag b ≠ 24 ∨ j ≠ 5) → (tag b ≠ 24 ∨ j ≠ 6) → (tag b ≠ 24 ∨ j ≠ 7) → (tag b ≠ 25 ∨ j ≠ 3) → (tag b ≠ 25 ∨ j ≠ 4) → (tag b ≠ 25 ∨ j ≠ 12) → fld F b j = fld Fo b j := fun b j n18_10 n24_2 n24_3 n24_4 n24_5 n24_6 n24_7 n25_3 n25_4 n25_12 => (yz154423.1 b j n24_2 n24_3 n24_4 n24_5 n24_6 n24_7 n25_3 n25_4).trans (hfr b j n18_10 n24_2 n24_3 n24_4 n24_5 n24_6 n24_7 n25_3 n25_4 n25_12)
    have hrel := nsr_of (fun j => yz154423.2 _ j (Or.inl gx4)) (fun j => yz154423.2 _ j (Or.inr gx5)) hrel
    refine lv_istore (lv' := [(6, .int z154423), (5, .int z154421), (4, .int z154419), (3, .int z154368), (2, .int z154362), (1, .int x6), (0, .ref p0)]) hx hb dX3_readHouse_131 hl (by decide) rfl (fun ls hl => ?_)
    refine lv_aload_n hx hb dX3_readHouse_133 rfl (lv_at hl 6 rfl) ?_
    refine t_get (C := RX3) (T := TX3) (N := 13) X hT m0 g0 rfl rfl 3 (by decide) qw_163 inlX3 rfl dX3_readHouse_134 (fun v154424 hv154424 ov154424 => ?_)
    obtain ⟨z154425, rfl, rz154425⟩ := okV_i ov154424
    refine lv_if_ne (tgt := 211) hx hb dX3_readHouse_137 (by decide) (fun c154426 => ?_) (fun c154426 => ?_)
    · have w154427 := cv_ne (rfl : z154425.toInt = z154425.toInt) (by decide : (0 : Int32).toInt = 0) c154426
      exact t_vret hQ X hT ⟨hfr, hrel⟩ (Nat.le_of_ble_eq_true rfl) (Nat.le_of_ble_eq_true rfl) dX3_readHouse_211
    · have w154428 := cv_eq (rfl : z154425.toInt = z154425.toInt) (by decide : (0 : Int32).toInt = 0) c154426
      refine lv_iload_n hx hb dX3_readHouse_140 rfl (lv_at hl 5 rfl) ?_
      refine lv_iconst (v := 4) hx hb dX3_readHouse_141 (by decide) ?_
      refine lv_icmp_ge (tgt := 211) hx hb dX3_readHouse_142 (by decide) (fun c154429 => ?_) (fun c154429 => ?_)
      · have w154430 := cv_le (by decide : (4 : Int32).toInt = 4) (rfl : x6.toInt = x6.toInt) c154429
        exfalso
        omega
      · have w154431 := cv_nle (by decide : (4 : Int32).toInt = 4) (rfl : x6.toInt = x6.toInt) c154429
        refine lv_aload_n hx hb dX3_readHouse_145 rfl (lv_at hl 6 rfl) ?_
        refine t_get (C := RX3) (T := TX3) (N := 13) X hT m0 g0 rfl rfl 1 (by decide) qw_161 inlX3 rfl dX3_readHouse_146 (fun v154432 hv154432 ov154432 => ?_)
        obtain rfl : v154432 = .ref x1 := hv154432.symm.trans pf1
        refine t_get (C := RX1) (T := TX1) (N := 20) X hT mx1 gx1 rfl rfl 11 (by decide) qw_373 inlX1 rfl dX3_readHouse_149 (fun v154433 hv154433 ov154433 => ?_)
        obtain ⟨b154434, rfl, mb154434, gb154434⟩ := okV_r ov154433
        have gb154434 : tag b154434 = 4 := tg_of gb154434
        refine lv_iload_n hx hb dX3_readHouse_152 rfl (lv_at hl 5 rfl) ?_
        refine lv_iload_n hx hb dX3_readHouse_153 rfl (lv_at hl 4 rfl) ?_
        refine t_ist X hT mb154434 gb154434 rfl (by omega) (show 0 ≤ (z154362 : Int32).toInt ∧ (z154362 : Int32).toInt ≤ 11 from (by omega)) dX3_readHouse_154 (fun F H locs hT v154435 h1v154435 h2v154435 => ?_)
        have pf0 := (h2v154435 _ _).trans pf0
        have pf1 := (h2v154435 _ _).trans pf1
        have pf2 := (h2v154435 _ _).trans pf2
        have pf3 := (h2v154435 _ _).trans pf3
        have pf4 := (h2v154435 _ _).trans pf4
        have pf5 := (h2v154435 _ _).trans pf5
        have pf6 := (h2v154435 _ _).trans pf6
        have hv154359 := (h2v154435 _ _).trans hv154359
        have hv154365 := (h2v154435 _ _).trans hv154365
        have hv154424 := (h2v154435 _ _).trans hv154424
        have hv154433 := (h2v154435 _ _).trans hv154433
        have hfr : ∀ b j : Nat, (tag b ≠ 18 ∨ j ≠ 10) → (tag b ≠ 24 ∨ j ≠ 2) → (tag b ≠ 24 ∨ j ≠ 3) → (tag b ≠ 24 ∨ j ≠ 4) → (tag b ≠ 24 ∨ j ≠ 5) → (tag b ≠ 24 ∨ j ≠ 6) → (tag b ≠ 24 ∨ j ≠ 7) → (tag b ≠ 25 ∨ j ≠ 3) → (tag b ≠ 25 ∨ j ≠ 4) → (tag b ≠ 25 ∨ j ≠ 12) → fld F b j = fld Fo b j := fun b j n18_10 n24_2 n24_3 n24_4 n24_5 n24_6 n24_7 n25_3 n25_4 n25_12 => (h2v154435 b j).trans (hfr b j n18_10 n24_2 n24_3 n24_4 n24_5 n24_6 n24_7 n25_3 n25_4 n25_12)
        have hrel := nsr_of (fun j => h1v154435 _ j (Or.inl (tne gx4 gb154434 (by decide)))) (fun j => h1v154435 _ j (Or.inl (tne gx5 gb154434 (by decide)))) hrel
        refine lv_aload_n hx hb dX3_readHouse_155 rfl (lv_at hl 6 rfl) ?_
        refine t_get (C := RX3) (T := TX3) (N := 13) X hT m0 g0 rfl rfl 1 (by decide) qw_161 inlX3 rfl dX3_readHouse_156 (fun v154436 hv154436 ov154436 => ?_)
        obtain rfl : v154436 = .ref x1 := hv154436.symm.trans pf1
        refine t_get (C := RX1) (T := TX1) (N := 20) X hT mx1 gx1 rfl rfl 12 (by decide) qw_374 inlX1 rfl dX3_readHouse_159 (fun v154437 hv154437 ov154437 => ?_)
        obtain ⟨b154438, rfl, mb154438, gb154438⟩ := okV_r ov154437
        have gb154438 : tag b154438 = 4 := tg_of gb154438
        refine lv_iload_n hx hb dX3_readHouse_162 rfl (lv_at hl 5 rfl) ?_
        refine lv_iload_n hx hb dX3_readHouse_163 rfl (lv_at hl 3 rfl) ?_
        refine t_ist X hT mb154438 gb154438 rfl (by omega) (show 0 ≤ (z154368 : Int32).toInt ∧ (z154368 : Int32).toInt ≤ 11 from (by omega)) dX3_readHouse_164 (fun F H locs hT v154439 h1v154439 h2v154439 => ?_)
        have pf0 := (h2v154439 _ _).trans pf0
        have pf1 := (h2v154439 _ _).trans pf1
        have pf2 := (h2v154439 _ _).trans pf2
        have pf3 := (h2v154439 _ _).trans pf3
        have pf4 := (h2v154439 _ _).trans pf4
        have pf5 := (h2v154439 _ _).trans pf5
        have pf6 := (h2v154439 _ _).trans pf6
        have hv154359 := (h2v154439 _ _).trans hv154359
        have hv154365 := (h2v154439 _ _).trans hv154365
        have hv154424 := (h2v154439 _ _).trans hv154424
        have hv154433 := (h2v154439 _ _).trans hv154433
        have hv154437 := (h2v154439 _ _).trans hv154437
        have hfr : ∀ b j : Nat, (tag b ≠ 18 ∨ j ≠ 10) → (tag b ≠ 24 ∨ j ≠ 2) → (tag b ≠ 24 ∨ j ≠ 3) → (tag b ≠ 24 ∨ j ≠ 4) → (tag b ≠ 24 ∨ j ≠ 5) → (tag b ≠ 24 ∨ j ≠ 6) → (tag b ≠ 24 ∨ j ≠ 7) → (tag b ≠ 25 ∨ j ≠ 3) → (tag b ≠ 25 ∨ j ≠ 4) → (tag b ≠ 25 ∨ j ≠ 12) → fld F b j = fld Fo b j := fun b j n18_10 n24_2 n24_3 n24_4 n24_5 n24_6 n24_7 n25_3 n25_4 n25_12 => (h2v154439 b j).trans (hfr b j n18_10 n24_2 n24_3 n24_4 n24_5 n24_6 n24_7 n25_3 n25_4 n25_12)
        have hrel := nsr_of (fun j => h1v154439 _ j (Or.inl (tne gx4 gb154438 (by decide)))) (fun j => h1v154439 _ j (Or.inl (tne gx5 gb154438 (by decide)))) hrel
        refine lv_aload_n hx hb dX3_readHouse_165 rfl (lv_at hl 6 rfl) ?_
        refine t_get (C := RX3) (T := TX3) (N := 13) X hT m0 g0 rfl rfl 1 (by decide) qw_161 inlX3 rfl dX3_readHouse_166 (fun v154440 hv154440 ov154440 => ?_)
        obtain rfl : v154440 = .ref x1 := hv154440.symm.trans pf1
        refine t_get (C := RX1) (T := TX1) (N := 20) X hT mx1 gx1 rfl rfl 13 (by decide) qw_375 inlX1 rfl dX3_readHouse_169 (fun v154441 hv154441 ov154441 => ?_)
        obtain ⟨b154442, rfl, mb154442, gb154442⟩ := okV_r ov154441
        have gb154442 : tag b154442 = 5 := tg_of gb154442
        refine lv_iload_n hx hb dX3_readHouse_172 rfl (lv_at hl 5 rfl) ?_
        refine lv_iload hx hb dX3_readHouse_173 (lv_at hl 2 rfl) ?_
        refine t_ist X hT mb154442 gb154442 rfl (by omega) (show (-2147483648) ≤ (z154419 : Int32).toInt ∧ (z154419 : Int32).toInt ≤ 2147483647 from (by omega)) dX3_readHouse_175 (fun F H locs hT v154443 h1v154443 h2v154443 => ?_)
        have pf0 := (h2v154443 _ _).trans pf0
        have pf1 := (h2v154443 _ _).trans pf1
        have pf2 := (h2v154443 _ _).trans pf2
        have pf3 := (h2v154443 _ _).trans pf3
        have pf4 := (h2v154443 _ _).trans pf4
        have pf5 := (h2v154443 _ _).trans pf5
        have pf6 := (h2v154443 _ _).trans pf6
        have hv154359 := (h2v154443 _ _).trans hv154359
        have hv154365 := (h2v154443 _ _).trans hv154365
        have hv154424 := (h2v154443 _ _).trans hv154424
        have hv154433 := (h2v154443 _ _).trans hv154433
        have hv154437 := (h2v154443 _ _).trans hv154437
        have hv154441 := (h2v154443 _ _).trans hv154441
        have hfr : ∀ b j : Nat, (tag b ≠ 18 ∨ j ≠ 10) → (tag b ≠ 24 ∨ j ≠ 2) → (tag b ≠ 24 ∨ j ≠ 3) → (tag b ≠ 24 ∨ j ≠ 4) → (tag b ≠ 24 ∨ j ≠ 5) → (tag b ≠ 24 ∨ j ≠ 6) → (tag b ≠ 24 ∨ j ≠ 7) → (tag b ≠ 25 ∨ j ≠ 3) → (tag b ≠ 25 ∨ j ≠ 4) → (tag b ≠ 25 ∨ j ≠ 12) → fld F b j = fld Fo b j := fun b j n18_10 n24_2 n24_3 n24_4 n24_5 n24_6 n24_7 n25_3 n25_4 n25_12 => (h2v154443 b j).trans (hfr b j n18_10 n24_2 n24_3 n24_4 n24_5 n24_6 n24_7 n25_3 n25_4 n25_12)
        have hrel := nsr_of (fun j => h1v154443 _ j (Or.inl (tne gx4 gb154442 (by decide)))) (fun j => h1v154443 _ j (Or.inl (tne gx5 gb154442 (by decide)))) hrel
        refine lv_aload_n hx hb dX3_readHouse_176 rfl (lv_at hl 6 rfl) ?_
        refine t_get (C := RX3) (T := TX3) (N := 13) X hT m0 g0 rfl rfl 2 (by decide) qw_162 inlX3 rfl dX3_readHouse_177 (fun v154444 hv154444 ov154444 => ?_)
        obtain rfl : v154444 = .ref x2 := hv154444.symm.trans pf2
        refine t_get (C := RX7) (T := TX7) (N := 7) X hT mx2 gx2 rfl rfl 3 (by decide) qw_376 inlX7 rfl dX3_readHouse_180 (fun v154445 hv154445 ov154445 => ?_)
        obtain ⟨b154446, rfl, mb154446, gb154446⟩ := okV_r ov154445
        have gb154446 : tag b154446 = 5 := tg_of gb154446
        refine lv_iload_n hx hb dX3_readHouse_183 rfl (lv_at hl 5 rfl) ?_
        refine lv_iload hx hb dX3_readHouse_184 (lv_at hl 1 rfl) ?_
        refine t_ist X hT mb154446 gb154446 rfl (by omega) (show (-2147483648) ≤ (z154421 : Int32).toInt ∧ (z154421 : Int32).toInt ≤ 2147483647 from (by omega)) dX3_readHouse_186 (fun F H locs hT v154447 h1v154447 h2v154447 => ?_)
        have pf0 := (h2v154447 _ _).trans pf0
        have pf1 := (h2v154447 _ _).trans pf1
        have pf2 := (h2v154447 _ _).trans pf2
        have pf3 := (h2v154447 _ _).trans pf3
        have pf4 := (h2v154447 _ _).trans pf4
        have pf5 := (h2v154447 _ _).trans pf5
        have pf6 := (h2v154447 _ _).trans pf6
        have hv154359 := (h2v154447 _ _).trans hv154359
        have hv154365 := (h2v154447 _ _).trans hv154365
        have hv154424 := (h2v154447 _ _).trans hv154424
        have hv154433 := (h2v154447 _ _).trans hv154433
        have hv154437 := (h2v154447 _ _).trans hv154437
        have hv154441 := (h2v154447 _ _).trans hv154441
        have hv154445 := (h2v154447 _ _).trans hv154445
        have hfr : ∀ b j : Nat, (tag b ≠ 18 ∨ j ≠ 10) → (tag b ≠ 24 ∨ j ≠ 2) → (tag b ≠ 24 ∨ j ≠ 3) → (tag b ≠ 24 ∨ j ≠ 4) → (tag b ≠ 24 ∨ j ≠ 5) → (tag b ≠ 24 ∨ j ≠ 6) → (tag b ≠ 24 ∨ j ≠ 7) → (tag b ≠ 25 ∨ j ≠ 3) → (tag b ≠ 25 ∨ j ≠ 4) → (tag b ≠ 25 ∨ j ≠ 12) → fld F b j = fld Fo b j := fun b j n18_10 n24_2 n24_3 n24_4 n24_5 n24_6 n24_7 n25_3 n25_4 n25_12 => (h2v154447 b j).trans (hfr b j n18_10 n24_2 n24_3 n24_4 n24_5 n24_6 n24_7 n25_3 n25_4 n25_12)
        have hrel := nsr_of (fun j => h1v154447 _ j (Or.inl (tne gx4 gb154446 (by decide)))) (fun j => h1v154447 _ j (Or.inl (tne gx5 gb154446 (by decide)))) hrel
        refine lv_aload_n hx hb dX3_readHouse_187 rfl (lv_at hl 6 rfl) ?_
        refine t_get (C := RX3) (T := TX3) (N := 13) X hT m0 g0 rfl rfl 2 (by decide) qw_162 inlX3 rfl dX3_readHouse_188 (fun v154448 hv154448 ov154448 => ?_)
        obtain rfl : v154448 = .ref x2 := hv154448.symm.trans pf2
        refine t_get (C := RX7) (T := TX7) (N := 7) X hT mx2 gx2 rfl rfl 4 (by decide) qw_377 inlX7 rfl dX3_readHouse_191 (fun v154449 hv154449 ov154449 => ?_)
        obtain ⟨b154450, rfl, mb154450, gb154450⟩ := okV_r ov154449
        have gb154450 : tag b154450 = 5 := tg_of gb154450
        refine lv_iload_n hx hb dX3_readHouse_194 rfl (lv_at hl 5 rfl) ?_
        refine lv_iload hx hb dX3_readHouse_195 (lv_at hl 0 rfl) ?_
        refine t_ist X hT mb154450 gb154450 rfl (by omega) (show (-2147483648) ≤ (z154423 : Int32).toInt ∧ (z154423 : Int32).toInt ≤ 2147483647 from (by omega)) dX3_readHouse_197 (fun F H locs hT v154451 h1v154451 h2v154451 => ?_)
        have pf0 := (h2v154451 _ _).trans pf0
        have pf1 := (h2v154451 _ _).trans pf1
        have pf2 := (h2v154451 _ _).trans pf2
        have pf3 := (h2v154451 _ _).trans pf3
        have pf4 := (h2v154451 _ _).trans pf4
        have pf5 := (h2v154451 _ _).trans pf5
        have pf6 := (h2v154451 _ _).trans pf6
        have hv154359 := (h2v154451 _ _).trans hv154359
        have hv154365 := (h2v154451 _ _).trans hv154365
        have hv154424 := (h2v154451 _ _).trans hv154424
        have hv154433 := (h2v154451 _ _).trans hv154433
        have hv154437 := (h2v154451 _ _).trans hv154437
        have hv154441 := (h2v154451 _ _).trans hv154441
        have hv154445 := (h2v154451 _ _).trans hv154445
        have hv154449 := (h2v154451 _ _).trans hv154449
        have hfr : ∀ b j : Nat, (tag b ≠ 18 ∨ j ≠ 10) → (tag b ≠ 24 ∨ j ≠ 2) → (tag b ≠ 24 ∨ j ≠ 3) → (tag b ≠ 24 ∨ j ≠ 4) → (tag b ≠ 24 ∨ j ≠ 5) → (tag b ≠ 24 ∨ j ≠ 6) → (tag b ≠ 24 ∨ j ≠ 7) → (tag b ≠ 25 ∨ j ≠ 3) → (tag b ≠ 25 ∨ j ≠ 4) → (tag b ≠ 25 ∨ j ≠ 12) → fld F b j = fld Fo b j := fun b j n18_10 n24_2 n24_3 n24_4 n24_5 n24_6 n24_7 n25_3 n25_4 n25_12 => (h2v154451 b j).trans (hfr b j n18_10 n24_2 n24_3 n24_4 n24_5 n24_6 n24_7 n25_3 n25_4 n25_12)
        have hrel := nsr_of (fun j => h1v154451 _ j (Or.inl (tne gx4 gb154450 (by decide)))) (fun j => h1v154451 _ j (Or.inl (tne gx5 gb154450 (by decide)))) hrel
        refine lv_aload_n hx hb dX3_readHouse_198 rfl (lv_at hl 6 rfl) ?_
        refine t_get (C := RX3) (T := TX3) (N := 13) X hT m0 g0 rfl rfl 1 (by decide) qw_161 inlX3 rfl dX3_readHouse_199 (fun v154452 hv154452 ov154452 => ?_)
        obtain rfl : v154452 = .ref x1 := hv154452.symm.trans pf1
        refine lv_dup hx hb dX3_readHouse_202 rfl ?_
        refine t_get (C := RX1) (T := TX1) (N := 20) X hT mx1 gx1 rfl rfl 10 (by decide) qw_172 inlX1 rfl dX3_readHouse_203 (fun v154453 hv154453 ov154453 => ?_)
        obtain rfl : v154453 = .int x6 := hv154453.symm.trans pf6
        refine lv_iconst (v := 1) hx hb dX3_readHouse_206 (by decide) ?_
        refine lv_iadd hx hb dX3_readHouse_207 ?_
        refine lv_topi (fun z154454 ez154454 => ?_)
        have hz154454 : z154454.toInt = x6.toInt + 1 := ar_add ez154454 (rfl : x6.toInt = x6.toInt) (by decide : (1 : Int32).toInt = 1) (by omega) (by omega)
        have rz154454 : 1 ≤ z154454.toInt ∧ z154454.toInt ≤ 4 := by omega
        refine t_put (C := RX1) (T := TX1) (N := 20) (v := .int z154454) X hT mx1 gx1 rfl tyX1 tyX1_ok nmX1 rfl 10 (by decide) qw_172 inlX1 rfl (by first | rfl | decide) (by first | rfl | decide) rfl (⟨_, rfl, (show 0 ≤ (z154454 : Int32).toInt from (by omega)), (show (z154454 : Int32).toInt ≤ 4 from (by omega))⟩) dX3_readHouse_208 (fun F H locs hT v154455 h1v154455 h2v154455 => ?_)
        have pf0 := (h1v154455 _ _ (Or.inr (by decide))).trans pf0
        have pf1 := (h1v154455 _ _ (Or.inr (by decide))).trans pf1
        have pf2 := (h1v154455 _ _ (Or.inr (by decide))).trans pf2
        have pf3 := (h1v154455 _ _ (Or.inr (by decide))).trans pf3
        have pf4 := (h1v154455 _ _ (Or.inl (tne g0 gx1 (by decide)))).trans pf4
        have pf5 := (h1v154455 _ _ (Or.inr (by decide))).trans pf5
        have hv154359 := (h1v154455 _ _ (Or.inr (by decide))).trans hv154359
        have hv154365 := (h1v154455 _ _ (Or.inr (by decide))).trans hv154365
        have hv154424 := (h1v154455 _ _ (Or.inr (by decide))).trans hv154424
        have hv154433 := (h1v154455 _ _ (Or.inr (by decide))).trans hv154433
        have hv154437 := (h1v154455 _ _ (Or.inr (by decide))).trans hv154437
        have hv154441 := (h1v154455 _ _ (Or.inr (by decide))).trans hv154441
        have hv154445 := (h1v154455 _ _ (Or.inr (by decide))).trans hv154445
        have hv154449 := (h1v154455 _ _ (Or.inr (by decide))).trans hv154449
        have v154451 := (h2v154455 _ _).trans v154451
        have hfr : ∀ b j : Nat, (tag b ≠ 18 ∨ j ≠ 10) → (tag b ≠ 24 ∨ j ≠ 2) → (tag b ≠ 24 ∨ j ≠ 3) → (tag b ≠ 24 ∨ j ≠ 4) → (tag b ≠ 24 ∨ j ≠ 5) → (tag b ≠ 24 ∨ j ≠ 6) → (tag b ≠ 24 ∨ j ≠ 7) → (tag b ≠ 25 ∨ j ≠ 3) → (tag b ≠ 25 ∨ j ≠ 4) → (tag b ≠ 25 ∨ j ≠ 12) → fld F b j = fld Fo b j := fun b j n18_10 n24_2 n24_3 n24_4 n24_5 n24_6 n24_7 n25_3 n25_4 n25_12 => (h1v154455 b j (fr_ne gx1 n18_10)).trans (hfr b j n18_10 n24_2 n24_3 n24_4 n24_5 n24_6 n24_7 n25_3 n25_4 n25_12)
        have hrel := nsr_of (fun j => h2v154455 _ j) (fun j => h2v154455 _ j) hrel
        exact t_vret hQ X hT ⟨hfr, hrel⟩ (Nat.le_of_ble_eq_true rfl) (Nat.le_of_ble_eq_true rfl) dX3_readHouse_211
