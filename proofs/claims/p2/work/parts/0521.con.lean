set_option maxHeartbeats 4000000 in
set_option maxRecDepth 100000 in
theorem kt137_X3_whole (l : Launch) (G : KG) (tag : Nat → Nat) (L : List Nat) (Fo : Nat → va_E) (ho : okT G ttC tag L Fo) (p0 : Nat) (p1 : Int32) (p2 : Int32) (x0 : Nat) (x1 : Nat) (x2 : Nat) (x3 : Nat) (x4 : Nat) (x5 : Nat) (m0 : p0 ∈ L) (g0 : tag p0 = 25) (h1 : 1 ≤ p1.toInt ∧ p1.toInt ≤ 1) (h2 : 99 ≤ p2.toInt ∧ p2.toInt ≤ 99) (mx0 : x0 ∈ L) (gx0 : tag x0 = 24) (pf0 : fld Fo p0 0 = .ref x0) (mx1 : x1 ∈ L) (gx1 : tag x1 = 18) (pf1 : fld Fo p0 1 = .ref x1) (mx2 : x2 ∈ L) (gx2 : tag x2 = 19) (pf2 : fld Fo p0 2 = .ref x2) (mx3 : x3 ∈ L) (gx3 : tag x3 = 1) (pf3 : fld Fo x0 0 = .ref x3) (mx4 : x4 ∈ L) (gx4 : tag x4 = 14) (pf4 : fld Fo p0 10 = .ref x4) (mx5 : x5 ∈ L) (gx5 : tag x5 = 15) (pf5 : fld Fo p0 11 = .ref x5) : TMi l yX3_whole cX3_whole 4 (some .int) { frames := 3, cells := 0, slots := 0, locals := 62 } G ttC tag L Fo [.ref p0, .int p1, .int p2] (fun r F1 => (1 ≤ r.toInt ∧ r.toInt ≤ 99) ∧ ((∀ b j : Nat, (tag b ≠ 24 ∨ j ≠ 2) → (tag b ≠ 24 ∨ j ≠ 3) → (tag b ≠ 24 ∨ j ≠ 4) → (tag b ≠ 24 ∨ j ≠ 5) → (tag b ≠ 24 ∨ j ≠ 6) → (tag b ≠ 24 ∨ j ≠ 7) → (tag b ≠ 25 ∨ j ≠ 3) → (tag b ≠ 25 ∨ j ≠ 4) → fld F1 b j = fld Fo b j) ∧ EF tag F1 Fo)) := by
  refine t_bodyi (y := yX3_whole) (cd := cX3_whole) (mL := 4) (rt := (some .int)) (rm := { frames := 3, cells := 0, slots := 0, locals := 62 }) (av := [.ref p0, .int p1, .int p2]) (by decide) (Nat.le_of_ble_eq_true rfl) ho ?_
  intro p e s m args below meth c ls A Q hQ X hT hl
  have hx := X.1.1
  have hb := X.1.2.1
  have hl : lv_has ls 4 [(0, .ref p0), (1, .int p1), (2, .int p2)] := hl
  obtain ⟨F, hFo⟩ : ∃ F : Nat → va_E, F = Fo := ⟨_, rfl⟩
  rw [← hFo] at hT pf0 pf1 pf2 pf3 pf4 pf5
  have hfr : (∀ b j : Nat, (tag b ≠ 24 ∨ j ≠ 2) → (tag b ≠ 24 ∨ j ≠ 3) → (tag b ≠ 24 ∨ j ≠ 4) → (tag b ≠ 24 ∨ j ≠ 5) → (tag b ≠ 24 ∨ j ≠ 6) → (tag b ≠ 24 ∨ j ≠ 7) → (tag b ≠ 25 ∨ j ≠ 3) → (tag b ≠ 25 ∨ j ≠ 4) → fld F b j = fld Fo b j) ∧ EF tag F Fo := by
    rw [hFo]
    exact ⟨by intros; rfl, fun _ _ _ => rfl⟩
  refine lv_aload_n hx hb dX3_whole_0 rfl (lv_at hl 0 rfl) ?_
  refine t_get (C := RX3) (T := TX3) (N := 13) X hT m0 g0 rfl rfl 0 (by decide) qw_73 inlX3 rfl dX3_whole_1 (fun v53438 hv53438 ov53438 => ?_)
  obtain rfl : v53438 = .ref x0 := hv53438.symm.trans pf0
  refine t_get (C := RX8) (T := TX8) (N := 8) X hT mx0 gx0 rfl rfl 3 (by decide) qw_170 inlX8 rfl dX3_whole_4 (fun v53439 hv53439 ov53439 => ?_)
  obtain ⟨z53440, rfl, rz53440⟩ := okV_i ov53439
  refine lv_iconst (v := 2) hx hb dX3_whole_7 (by decide) ?_
  refine lv_icmp_eq (tgt := 26) hx hb dX3_whole_8 (by decide) (fun c53441 => ?_) (fun c53441 => ?_)
  · have w53442 := cv_eq (rfl : z53440.toInt = z53440.toInt) (by decide : (2 : Int32).toInt = 2) c53441
    refine lv_aload_n hx hb dX3_whole_26 rfl (lv_at hl 0 rfl) ?_
    refine t_get (C := RX3) (T := TX3) (N := 13) X hT m0 g0 rfl rfl 0 (by decide) qw_73 inlX3 rfl dX3_whole_27 (fun v53443 hv53443 ov53443 => ?_)
    obtain rfl : v53443 = .ref x0 := hv53443.symm.trans pf0
    refine t_get (C := RX8) (T := TX8) (N := 8) X hT mx0 gx0 rfl rfl 6 (by decide) qw_322 inlX8 rfl dX3_whole_30 (fun v53444 hv53444 ov53444 => ?_)
    obtain ⟨z53445, rfl, rz53445⟩ := okV_i ov53444
    refine lv_iload_n hx hb dX3_whole_33 rfl (lv_at hl 1 rfl) ?_
    refine lv_icmp_lt (tgt := 48) hx hb dX3_whole_34 (by decide) (fun c53446 => ?_) (fun c53446 => ?_)
    · have w53447 := cv_lt (rfl : z53445.toInt = z53445.toInt) (rfl : p1.toInt = p1.toInt) c53446
      refine lv_aload_n hx hb dX3_whole_48 rfl (lv_at hl 0 rfl) ?_
      refine lv_iconst (v := 4) hx hb dX3_whole_49 (by decide) ?_
      refine lv_aload_n hx hb dX3_whole_50 rfl (lv_at hl 0 rfl) ?_
      refine t_get (C := RX3) (T := TX3) (N := 13) X hT m0 g0 rfl rfl 0 (by decide) qw_73 inlX3 rfl dX3_whole_51 (fun v53448 hv53448 ov53448 => ?_)
      obtain rfl : v53448 = .ref x0 := hv53448.symm.trans pf0
      refine t_get (C := RX8) (T := TX8) (N := 8) X hT mx0 gx0 rfl rfl 4 (by decide) qw_227 inlX8 rfl dX3_whole_54 (fun v53449 hv53449 ov53449 => ?_)
      obtain ⟨z53450, rfl, rz53450⟩ := okV_i ov53449
      refine t_cVv (n := 2) (C := RX3) (T := TX3) (N := 13) (As := [.int 4, .int z53450]) (rest := []) X hT (kt111_X3_fail l G tag L F hT.2.2.2 p0 4 z53450 m0 g0 (by decide)) m0 g0 rfl rfl qw_287 qw_288 qw_289 qw_28 qw_290 ⟨rfl, by decide +kernel, by decide +kernel, by decide +kernel⟩ ⟨Nat.le_of_ble_eq_true rfl, Nat.le_of_ble_eq_true rfl⟩ hl rfl rfl (Nat.le_of_ble_eq_true rfl) dX3_whole_57 ⟨Nat.le_of_ble_eq_true rfl, Nat.le_of_ble_eq_true rfl⟩ (fun F H locs hT hz53451 => ?_)
      obtain ⟨yz53451, xz53451_0⟩ := hz53451
      have pf0 := (yz53451.1 _ 0 (Or.inr (by decide)) (Or.inr (by decide))).trans pf0
      have pf1 := (yz53451.1 _ 1 (Or.inr (by decide)) (Or.inr (by decide))).trans pf1
      have pf2 := (yz53451.1 _ 2 (Or.inr (by decide)) (Or.inr (by decide))).trans pf2
      have pf3 := (yz53451.1 _ 0 (Or.inr (by decide)) (Or.inr (by decide))).trans pf3
      have pf4 := (yz53451.1 _ 10 (Or.inr (by decide)) (Or.inr (by decide))).trans pf4
      have pf5 := (yz53451.1 _ 11 (Or.inr (by decide)) (Or.inr (by decide))).trans pf5
      have hv53439 := (yz53451.1 _ 3 (Or.inl (by rw [gx0]; decide)) (Or.inr (by decide))).trans hv53439
      have hv53444 := (yz53451.1 _ 6 (Or.inr (by decide)) (Or.inr (by decide))).trans hv53444
      have hv53449 := (yz53451.1 _ 4 (Or.inr (by decide)) (Or.inl (by rw [gx0]; decide))).trans hv53449
      have hfr : (∀ b j : Nat, (tag b ≠ 24 ∨ j ≠ 2) → (tag b ≠ 24 ∨ j ≠ 3) → (tag b ≠ 24 ∨ j ≠ 4) → (tag b ≠ 24 ∨ j ≠ 5) → (tag b ≠ 24 ∨ j ≠ 6) → (tag b ≠ 24 ∨ j ≠ 7) → (tag b ≠ 25 ∨ j ≠ 3) → (tag b ≠ 25 ∨ j ≠ 4) → fld F b j = fld Fo b j) ∧ EF tag F Fo := ⟨fun b j n24_2 n24_3 n24_4 n24_5 n24_6 n24_7 n25_3 n25_4 => (yz53451.1 b j n25_3 n25_4).trans (hfr.1 b j n24_2 n24_3 n24_4 n24_5 n24_6 n24_7 n25_3 n25_4), fun b j hb => (yz53451.2 b j hb).trans (hfr.2 b j hb)⟩
      obtain ⟨z53452, qz53452, rz53452⟩ := xz53451_0
      refine lv_aload_n hx hb dX3_whole_60 rfl (lv_at hl 0 rfl) ?_
      refine t_get (C := RX3) (T := TX3) (N := 13) X hT m0 g0 rfl rfl 3 (by decide) qw_163 inlX3 rfl dX3_whole_61 (fun v53453 hv53453 ov53453 => ?_)
      obtain rfl : v53453 = .int z53452 := hv53453.symm.trans qz53452
      refine lv_if_eq (tgt := 69) hx hb dX3_whole_64 (by decide) (fun c53454 => ?_) (fun c53454 => ?_)
      · have w53455 := cv_eq (rfl : z53452.toInt = z53452.toInt) (by decide : (0 : Int32).toInt = 0) c53454
        exfalso
        omega
      · have w53456 := cv_ne (rfl : z53452.toInt = z53452.toInt) (by decide : (0 : Int32).toInt = 0) c53454
        refine lv_iload_n hx hb dX3_whole_67 rfl (lv_at hl 1 rfl) ?_
        exact t_iret hQ X hT (⟨(by omega), hfr⟩) (Nat.le_of_ble_eq_true rfl) (Nat.le_of_ble_eq_true rfl) dX3_whole_68
    · have w53457 := cv_nlt (rfl : z53445.toInt = z53445.toInt) (rfl : p1.toInt = p1.toInt) c53446
      refine lv_aload_n hx hb dX3_whole_37 rfl (lv_at hl 0 rfl) ?_
      refine t_get (C := RX3) (T := TX3) (N := 13) X hT m0 g0 rfl rfl 0 (by decide) qw_73 inlX3 rfl dX3_whole_38 (fun v53458 hv53458 ov53458 => ?_)
      obtain rfl : v53458 = .ref x0 := hv53458.symm.trans pf0
      refine t_get (C := RX8) (T := TX8) (N := 8) X hT mx0 gx0 rfl rfl 6 (by decide) qw_322 inlX8 rfl dX3_whole_41 (fun v53459 hv53459 ov53459 => ?_)
      obtain rfl : v53459 = .int z53445 := hv53459.symm.trans hv53444
      refine lv_iload_n hx hb dX3_whole_44 rfl (lv_at hl 2 rfl) ?_
      refine lv_icmp_le (tgt := 60) hx hb dX3_whole_45 (by decide) (fun c53460 => ?_) (fun c53460 => ?_)
      · have w53461 := cv_le (rfl : z53445.toInt = z53445.toInt) (rfl : p2.toInt = p2.toInt) c53460
        refine lv_aload_n hx hb dX3_whole_60 rfl (lv_at hl 0 rfl) ?_
        refine t_get (C := RX3) (T := TX3) (N := 13) X hT m0 g0 rfl rfl 3 (by decide) qw_163 inlX3 rfl dX3_whole_61 (fun v53462 hv53462 ov53462 => ?_)
        obtain ⟨z53463, rfl, rz53463⟩ := okV_i ov53462
        refine lv_if_eq (tgt := 69) hx hb dX3_whole_64 (by decide) (fun c53464 => ?_) (fun c53464 => ?_)
        · have w53465 := cv_eq (rfl : z53463.toInt = z53463.toInt) (by decide : (0 : Int32).toInt = 0) c53464
          refine lv_aload_n hx hb dX3_whole_69 rfl (lv_at hl 0 rfl) ?_
          refine t_get (C := RX3) (T := TX3) (N := 13) X hT m0 g0 rfl rfl 0 (by decide) qw_73 inlX3 rfl dX3_whole_70 (fun v53466 hv53466 ov53466 => ?_)
          obtain rfl : v53466 = .ref x0 := hv53466.symm.trans pf0
          refine t_get (C := RX8) (T := TX8) (N := 8) X hT mx0 gx0 rfl rfl 6 (by decide) qw_322 inlX8 rfl dX3_whole_73 (fun v53467 hv53467 ov53467 => ?_)
          obtain rfl : v53467 = .int z53445 := hv53467.symm.trans hv53444
          refine lv_istore_n (lv' := [(3, .int z53445), (0, .ref p0), (1, .int p1), (2, .int p2)]) hx hb dX3_whole_76 rfl hl (by decide) rfl (fun ls hl => ?_)
          refine lv_aload_n hx hb dX3_whole_77 rfl (lv_at hl 1 rfl) ?_
          refine t_get (C := RX3) (T := TX3) (N := 13) X hT m0 g0 rfl rfl 0 (by decide) qw_73 inlX3 rfl dX3_whole_78 (fun v53468 hv53468 ov53468 => ?_)
          obtain rfl : v53468 = .ref x0 := hv53468.symm.trans pf0
          refine t_cVv (n := 0) (C := RX8) (T := TX8) (N := 8) (As := []) (rest := []) X hT (kt98_X8_advance l G tag L F hT.2.2.2 x0 x3 mx0 gx0 mx3 gx3 pf3) mx0 gx0 rfl rfl qw_305 qw_197 qw_198 qw_72 qw_199 ⟨rfl, by decide +kernel, by decide +kernel, by decide +kernel⟩ ⟨Nat.le_of_ble_eq_true rfl, Nat.le_of_ble_eq_true rfl⟩ hl rfl rfl (Nat.le_of_ble_eq_true rfl) dX3_whole_81 ⟨Nat.le_of_ble_eq_true rfl, Nat.le_of_ble_eq_true rfl⟩ (fun F H locs hT hz53469 => ?_)
          have yz53469 := hz53469
          have pf0 := (yz53469.1 _ 0 (Or.inr (by decide)) (Or.inr (by decide)) (Or.inr (by decide)) (Or.inr (by decide)) (Or.inr (by decide)) (Or.inr (by decide))).trans pf0
          have pf1 := (yz53469.1 _ 1 (Or.inr (by decide)) (Or.inr (by decide)) (Or.inr (by decide)) (Or.inr (by decide)) (Or.inr (by decide)) (Or.inr (by decide))).trans pf1
          have pf2 := (yz53469.1 _ 2 (Or.inl (by rw [g0]; decide)) (Or.inr (by decide)) (Or.inr (by decide)) (Or.inr (by decide)) (Or.inr (by decide)) (Or.inr (by decide))).trans pf2
          have pf3 := (yz53469.1 _ 0 (Or.inr (by decide)) (Or.inr (by decide)) (Or.inr (by decide)) (Or.inr (by decide)) (Or.inr (by decide)) (Or.inr (by decide))).trans pf3
          have pf4 := (yz53469.1 _ 10 (Or.inr (by decide)) (Or.inr (by decide)) (Or.inr (by decide)) (Or.inr (by decide)) (Or.inr (by decide)) (Or.inr (by decide))).trans pf4
          have pf5 := (yz53469.1 _ 11 (Or.inr (by decide)) (Or.inr (by decide)) (Or.inr (by decide)) (Or.inr (by decide)) (Or.inr (by decide)) (Or.inr (by decide))).trans pf5
          have hv53462 := (yz53469.1 _ 3 (Or.inr (by decide)) (Or.inl (by rw [g0]; decide)) (Or.inr (by decide)) (Or.inr (by decide)) (Or.inr (by decide)) (Or.inr (by decide))).trans hv53462
          have hfr : (∀ b j : Nat, (tag b ≠ 24 ∨ j ≠ 2) → (tag b ≠ 24 ∨ j ≠ 3) → (tag b ≠ 24 ∨ j ≠ 4) → (tag b ≠ 24 ∨ j ≠ 5) → (tag b ≠ 24 ∨ j ≠ 6) → (tag b ≠ 24 ∨ j ≠ 7) → (tag b ≠ 25 ∨ j ≠ 3) → (tag b ≠ 25 ∨ j ≠ 4) → fld F b j = fld Fo b j) ∧ EF tag F Fo := ⟨fun b j n24_2 n24_3 n24_4 n24_5 n24_6 n24_7 n25_3 n25_4 => (yz53469.1 b j n24_2 n24_3 n24_4 n24_5 n24_6 n24_7).trans (hfr.1 b j n24_2 n24_3 n24_4 n24_5 n24_6 n24_7 n25_3 n25_4), fun b j hb => (yz53469.2 b j hb).trans (hfr.2 b j hb)⟩
          refine lv_iload_n hx hb dX3_whole_84 rfl (lv_at hl 0 rfl) ?_
          exact t_iret hQ X hT (⟨(by omega), hfr⟩) (Nat.le_of_ble_eq_true rfl) (Nat.le_of_ble_eq_true rfl) dX3_whole_85
        · have w53470 := cv_ne (rfl : z53463.toInt = z53463.toInt) (by decide : (0 : Int32).toInt = 0) c53464
          refine lv_iload_n hx hb dX3_whole_67 rfl (lv_at hl 1 rfl) ?_
          exact t_iret hQ X hT (⟨(by omega), hfr⟩) (Nat.le_of_ble_eq_true rfl) (Nat.le_of_ble_eq_true rfl) dX3_whole_68
      · have w53471 := cv_nle (rfl : z53445.toInt = z53445.toInt) (rfl : p2.toInt = p2.toInt) c53460
        refine lv_aload_n hx hb dX3_whole_48 rfl (lv_at hl 0 rfl) ?_
        refine lv_iconst (v := 4) hx hb dX3_whole_49 (by decide) ?_
        refine lv_aload_n hx hb dX3_whole_50 rfl (lv_at hl 0 rfl) ?_
        refine t_get (C := RX3) (T := TX3) (N := 13) X hT m0 g0 rfl rfl 0 (by decide) qw_73 inlX3 rfl dX3_whole_51 (fun v53472 hv53472 ov53472 => ?_)
        obtain rfl : v53472 = .ref x0 := hv53472.symm.trans pf0
        refine t_get (C := RX8) (T := TX8) (N := 8) X hT mx0 gx0 rfl rfl 4 (by decide) qw_227 inlX8 rfl dX3_whole_54 (fun v53473 hv53473 ov53473 => ?_)
        obtain ⟨z53474, rfl, rz53474⟩ := okV_i ov53473
        refine t_cVv (n := 2) (C := RX3) (T := TX3) (N := 13) (As := [.int 4, .int z53474]) (rest := []) X hT (kt111_X3_fail l G tag L F hT.2.2.2 p0 4 z53474 m0 g0 (by decide)) m0 g0 rfl rfl qw_287 qw_288 qw_289 qw_28 qw_290 ⟨rfl, by decide +kernel, by decide +kernel, by decide +kernel⟩ ⟨Nat.le_of_ble_eq_true rfl, Nat.le_of_ble_eq_true rfl⟩ hl rfl rfl (Nat.le_of_ble_eq_true rfl) dX3_whole_57 ⟨Nat.le_of_ble_eq_true rfl, Nat.le_of_ble_eq_true rfl⟩ (fun F H locs hT hz53475 => ?_)
        obtain ⟨yz53475, xz53475_0⟩ := hz53475
        have pf0 := (yz53475.1 _ 0 (Or.inr (by decide)) (Or.inr (by decide))).trans pf0
        have pf1 := (yz53475.1 _ 1 (Or.inr (by decide)) (Or.inr (by decide))).trans pf1
        have pf2 := (yz53475.1 _ 2 (Or.inr (by decide)) (Or.inr (by decide))).trans pf2
        have pf3 := (yz53475.1 _ 0 (Or.inr (by decide)) (Or.inr (by decide))).trans pf3
        have pf4 := (yz53475.1 _ 10 (Or.inr (by decide)) (Or.inr (by decide))).trans pf4
        have pf5 := (yz53475.1 _ 11 (Or.inr (by decide)) (Or.inr (by decide))).trans pf5
        have hv53439 := (yz53475.1 _ 3 (Or.inl (by rw [gx0]; decide)) (Or.inr (by decide))).trans hv53439
        have hv53444 := (yz53475.1 _ 6 (Or.inr (by decide)) (Or.inr (by decide))).trans hv53444
        have hv53473 := (yz53475.1 _ 4 (Or.inr (by decide)) (Or.inl (by rw [gx0]; decide))).trans hv53473
        have hfr : (∀ b j : Nat, (tag b ≠ 24 ∨ j ≠ 2) → (tag b ≠ 24 ∨ j ≠ 3) → (tag b ≠ 24 ∨ j ≠ 4) → (tag b ≠ 24 ∨ j ≠ 5) → (tag b ≠ 24 ∨ j ≠ 6) → (tag b ≠ 24 ∨ j ≠ 7) → (tag b ≠ 25 ∨ j ≠ 3) → (tag b ≠ 25 ∨ j ≠ 4) → fld F b j = fld Fo b j) ∧ EF tag F Fo := ⟨fun b j n24_2 n24_3 n24_4 n24_5 n24_6 n24_7 n25_3 n25_4 => (yz53475.1 b j n25_3 n25_4).trans (hfr.1 b j n24_2 n24_3 n24_4 n24_5 n24_6 n24_7 n25_3 n25_4), fun b j hb => (yz53475.2 b j hb).trans (hfr.2 b j hb)⟩
        obtain ⟨z53476, qz53476, rz53476⟩ := xz53475_0
        refine lv_aload_n hx hb dX3_whole_60 rfl (lv_at hl 0 rfl) ?_
        refine t_get (C := RX3) (T := TX3) (N := 13) X hT m0 g0 rfl rfl 3 (by decide) qw_163 inlX3 rfl dX3_whole_61 (fun v53477 hv53477 ov53477 => ?_)
        obtain rfl : v53477 = .int z53476 := hv53477.symm.trans qz53476
        refine lv_if_eq (tgt := 69) hx hb dX3_whole_64 (by decide) (fun c53478 => ?_) (fun c53478 => ?_)
        · have w53479 := cv_eq (rfl : z53476.toInt = z53476.toInt) (by decide : (0 : Int32).toInt = 0) c53478
          exfalso
          omega
        · have w53480 := cv_ne (rfl : z53476.toInt = z53476.toInt) (by decide : (0 : Int32).toInt = 0) c53478
          refine lv_iload_n hx hb dX3_whole_67 rfl (lv_at hl 1 rfl) ?_
          exact t_iret hQ X hT (⟨(by omega), hfr⟩) (Nat.le_of_ble_eq_true rfl) (Nat.le_of_ble_eq_true rfl) dX3_whole_68
  · have w53481 := cv_ne (rfl : z53440.toInt = z53440.toInt) (by decide : (2 : Int32).toInt = 2) c53441
    refine lv_aload_n hx hb dX3_whole_11 rfl (lv_at hl 0 rfl) ?_
    refine lv_iconst (v := 1) hx hb dX3_whole_12 (by decide) ?_
    refine lv_aload_n hx hb dX3_whole_13 rfl (lv_at hl 0 rfl) ?_
    refine t_get (C := RX3) (T := TX3) (N := 13) X hT m0 g0 rfl rfl 0 (by decide) qw_73 inlX3 rfl dX3_whole_14 (fun v53482 hv53482 ov53482 => ?_)
    obtain rfl : v53482 = .ref x0 := hv53482.symm.trans pf0
    refine t_get (C := RX8) (T := TX8) (N := 8) X hT mx0 gx0 rfl rfl 4 (by decide) qw_227 inlX8 rfl dX3_whole_17 (fun v53483 hv53483 ov53483 => ?_)
    obtain ⟨z53484, rfl, rz53484⟩ := okV_i ov53483
    refine t_cVv (n := 2) (C := RX3) (T := TX3) (N := 13) (As := [.int 1, .int z53484]) (rest := []) X hT (kt111_X3_fail l G tag L F hT.2.2.2 p0 1 z53484 m0 g0 (by decide)) m0 g0 rfl rfl qw_287 qw_288 qw_289 qw_28 qw_290 ⟨rfl, by decide +kernel, by decide +kernel, by decide +kernel⟩ ⟨Nat.le_of_ble_eq_true rfl, Nat.le_of_ble_eq_true rfl⟩ hl rfl rfl (Nat.le_of_ble_eq_true rfl) dX3_whole_20 ⟨Nat.le_of_ble_eq_true rfl, Nat.le_of_ble_eq_true rfl⟩ (fun F H locs hT hz53485 => ?_)
    obtain ⟨yz53485, xz53485_0⟩ := hz53485
    have pf0 := (yz53485.1 _ 0 (Or.inr (by decide)) (Or.inr (by decide))).trans pf0
    have pf1 := (yz53485.1 _ 1 (Or.inr (by decide)) (Or.inr (by decide))).trans pf1
    have pf2 := (yz53485.1 _ 2 (Or.inr (by decide)) (Or.inr (by decide))).trans pf2
    have pf3 := (yz53485.1 _ 0 (Or.inr (by decide)) (Or.inr (by decide))).trans pf3
    have pf4 := (yz53485.1 _ 10 (Or.inr (by decide)) (Or.inr (by decide))).trans pf4
    have pf5 := (yz53485.1 _ 11 (Or.inr (by decide)) (Or.inr (by decide))).trans pf5
    have hv53439 := (yz53485.1 _ 3 (Or.inl (by rw [gx0]; decide)) (Or.inr (by decide))).trans hv53439
    have hv53483 := (yz53485.1 _ 4 (Or.inr (by decide)) (Or.inl (by rw [gx0]; decide))).trans hv53483
    have hfr : (∀ b j : Nat, (tag b ≠ 24 ∨ j ≠ 2) → (tag b ≠ 24 ∨ j ≠ 3) → (tag b ≠ 24 ∨ j ≠ 4) → (tag b ≠ 24 ∨ j ≠ 5) → (tag b ≠ 24 ∨ j ≠ 6) → (tag b ≠ 24 ∨ j ≠ 7) → (tag b ≠ 25 ∨ j ≠ 3) → (tag b ≠ 25 ∨ j ≠ 4) → fld F b j = fld Fo b j) ∧ EF tag F Fo := ⟨fun b j n24_2 n24_3 n24_4 n24_5 n24_6 n24_7 n25_3 n25_4 => (yz53485.1 b j n25_3 n25_4).trans (hfr.1 b j n24_2 n24_3 n24_4 n24_5 n24_6 n24_7 n25_3 n25_4), fun b j hb => (yz53485.2 b j hb).trans (hfr.2 b j hb)⟩
    obtain ⟨z53486, qz53486, rz53486⟩ := xz53485_0
    refine lv_goto (tgt := 60) hx hb dX3_whole_23 (by decide) ?_
    refine lv_aload_n hx hb dX3_whole_60 rfl (lv_at hl 0 rfl) ?_
    refine t_get (C := RX3) (T := TX3) (N := 13) X hT m0 g0 rfl rfl 3 (by decide) qw_163 inlX3 rfl dX3_whole_61 (fun v53487 hv53487 ov53487 => ?_)
    obtain rfl : v53487 = .int z53486 := hv53487.symm.trans qz53486
    refine lv_if_eq (tgt := 69) hx hb dX3_whole_64 (by decide) (fun c53488 => ?_) (fun c53488 => ?_)
    · have w53489 := cv_eq (rfl : z53486.toInt = z53486.toInt) (by decide : (0 : Int32).toInt = 0) c53488
      exfalso
      omega
    · have w53490 := cv_ne (rfl : z53486.toInt = z53486.toInt) (by decide : (0 : Int32).toInt = 0) c53488
      refine lv_iload_n hx hb dX3_whole_67 rfl (lv_at hl 1 rfl) ?_
      exact t_iret hQ X hT (⟨(by omega), hfr⟩) (Nat.le_of_ble_eq_true rfl) (Nat.le_of_ble_eq_true rfl) dX3_whole_68
set_option maxHeartbeats 4000000 in
set_option maxRecDepth 100000 in
theorem kt138_X3_readStone (l : Launch) (G : KG) (tag : Nat → Nat) (L : List Nat) (Fo : Nat → va_E) (ho : okT G ttC tag L Fo) (p0 : Nat) (x0 : Nat) (x1 : Nat) (x2 : Nat) (x3 : Nat) (x4 : Nat) (x5 : Nat) (m0 : p0 ∈ L) (g0 : tag p0 = 25) (mx0 : x0 ∈ L) (gx0 : tag x0 = 24) (pf0 : fld Fo p0 0 = .ref x0) (mx1 : x1 ∈ L) (gx1 : tag x1 = 18) (pf1 : fld Fo p0 1 = .ref x1) (mx2 : x2 ∈ L) (gx2 : tag x2 = 19) (pf2 : fld Fo p0 2 = .ref x2) (mx3 : x3 ∈ L) (gx3 : tag x3 = 1) (pf3 : fld Fo x0 0 = .ref x3) (mx4 : x4 ∈ L) (gx4 : tag x4 = 14) (pf4 : fld Fo p0 10 = .ref x4) (mx5 : x5 ∈ L) (gx5 : tag x5 = 15) (pf5 : fld Fo p0 11 = .ref x5) (hrel : NSR Fo x4 x5) : TMv l yX3_readStone cX3_readStone 2 { frames := 7, cells := 0, slots := 0, locals := 150 } G ttC tag L Fo [.ref p0] (fun F1 => (∀ b j : Nat, (tag b ≠ 18 ∨ j ≠ 8) → (tag b ≠ 24 ∨ j ≠ 2) → (tag b ≠ 24 ∨ j ≠ 3) → (tag b ≠ 24 ∨ j ≠ 4) → (tag b ≠ 24 ∨ j ≠ 5) → (tag b ≠ 24 ∨ j ≠ 6) → (tag b ≠ 24 ∨ j ≠ 7) → (tag b ≠ 25 ∨ j ≠ 3) → (tag b ≠ 25 ∨ j ≠ 4) → (tag b ≠ 25 ∨ j ≠ 12) → fld F1 b j = fld Fo b j) ∧ (NSR F1 x4 x5)) := by
  refine t_bodyv (y := yX3_readStone) (cd := cX3_readStone) (mL := 2) (rm := { frames := 7, cells := 0, slots := 0, locals := 150 }) (av := [.ref p0]) (by decide) (Nat.le_of_ble_eq_true rfl) ho ?_
  intro p e s m args below meth c ls A Q hQ X hT hl
  have hx := X.1.1
  have hb := X.1.2.1
  have hl : lv_has ls 2 [(0, .ref p0)] := hl
  obtain ⟨F, hFo⟩ : ∃ F : Nat → va_E, F = Fo := ⟨_, rfl⟩
  rw [← hFo] at hT pf0 pf1 pf2 pf3 pf4 pf5 hrel
  have hfr : ∀ b j : Nat, (tag b ≠ 18 ∨ j ≠ 8) → (tag b ≠ 24 ∨ j ≠ 2) → (tag b ≠ 24 ∨ j ≠ 3) → (tag b ≠ 24 ∨ j ≠ 4) → (tag b ≠ 24 ∨ j ≠ 5) → (tag b ≠ 24 ∨ j ≠ 6) → (tag b ≠ 24 ∨ j ≠ 7) → (tag b ≠ 25 ∨ j ≠ 3) → (tag b ≠ 25 ∨ j ≠ 4) → (tag b ≠ 25 ∨ j ≠ 12) → fld F b j = fld Fo b j := by
    rw [hFo]
    intros
    rfl
  refine lv_aload_n hx hb dX3_readStone_0 rfl (lv_at hl 0 rfl) ?_
  refine t_get (C := RX3) (T := TX3) (N := 13) X hT m0 g0 rfl rfl 1 (by decide) qw_161 inlX3 rfl dX3_readStone_1 (fun v53767 hv53767 ov53767 => ?_)
  obtain rfl : v53767 = .ref x1 := hv53767.symm.trans pf1
  refine t_get (C := RX1) (T := TX1) (N := 20) X hT mx1 gx1 rfl rfl 8 (by decide) qw_171 inlX1 rfl dX3_readStone_4 (fun v53768 hv53768 ov53768 => ?_)
  obtain ⟨z53769, rfl, rz53769⟩ := okV_i ov53768
  refine lv_istore_n (lv' := [(1, .int z53769), (0, .ref p0)]) hx hb dX3_readStone_7 rfl hl (by decide) rfl (fun ls hl => ?_)
  refine lv_aload_n hx hb dX3_readStone_8 rfl (lv_at hl 1 rfl) ?_
  refine lv_iconst (v := 3) hx hb dX3_readStone_9 (by decide) ?_
  refine lv_iload_n hx hb dX3_readStone_10 rfl (lv_at hl 0 rfl) ?_
  refine t_cVv (n := 2) (C := RX3) (T := TX3) (N := 13) (As := [.int 3, .int z53769]) (rest := []) X hT (kt135_X3_newName l G tag L F hT.2.2.2 p0 3 z53769 x0 x1 x2 x3 x4 x5 m0 g0 (by decide) mx0 gx0 pf0 mx1 gx1 pf1 mx2 gx2 pf2 mx3 gx3 pf3 mx4 gx4 pf4 mx5 gx5 pf5 hrel) m0 g0 rfl rfl qw_356 qw_357 qw_358 qw_28 qw_359 ⟨rfl, by decide +kernel, by decide +kernel, by decide +kernel⟩ ⟨Nat.le_of_ble_eq_true rfl, Nat.le_of_ble_eq_true rfl⟩ hl rfl rfl (Nat.le_of_ble_eq_true rfl) dX3_readStone_11 ⟨Nat.le_of_ble_eq_true rfl, Nat.le_of_ble_eq_true rfl⟩ (fun F H locs hT hz53770 => ?_)
  obtain ⟨yz53770, hrel⟩ := hz53770
  have pf0 := (yz53770 _ 0 (Or.inr (by decide)) (Or.inr (by decide)) (Or.inr (by decide)) (Or.inr (by decide)) (Or.inr (by decide)) (Or.inr (by decide)) (Or.inr (by decide)) (Or.inr (by decide)) (Or.inr (by decide))).trans pf0
  have pf1 := (yz53770 _ 1 (Or.inr (by decide)) (Or.inr (by decide)) (Or.inr (by decide)) (Or.inr (by decide)) (Or.inr (by decide)) (Or.inr (by decide)) (Or.inr (by decide)) (Or.inr (by decide)) (Or.inr (by decide))).trans pf1
  have pf2 := (yz53770 _ 2 (Or.inl (by rw [g0]; decide)) (Or.inr (by decide)) (Or.inr (by decide)) (Or.inr (by decide)) (Or.inr (by decide)) (Or.inr (by decide)) (Or.inr (by decide)) (Or.inr (by decide)) (Or.inr (by decide))).trans pf2
  have pf3 := (yz53770 _ 0 (Or.inr (by decide)) (Or.inr (by decide)) (Or.inr (by decide)) (Or.inr (by decide)) (Or.inr (by decide)) (Or.inr (by decide)) (Or.inr (by decide)) (Or.inr (by decide)) (Or.inr (by decide))).trans pf3
  have pf4 := (yz53770 _ 10 (Or.inr (by decide)) (Or.inr (by decide)) (Or.inr (by decide)) (Or.inr (by decide)) (Or.inr (by decide)) (Or.inr (by decide)) (Or.inr (by decide)) (Or.inr (by decide)) (Or.inr (by decide))).trans pf4
  have pf5 := (yz53770 _ 11 (Or.inr (by decide)) (Or.inr (by decide)) (Or.inr (by decide)) (Or.inr (by decide)) (Or.inr (by decide)) (Or.inr (by decide)) (Or.inr (by decide)) (Or.inr (by decide)) (Or.inr (by decide))).trans pf5
  have hv53768 := (yz53770 _ 8 (Or.inr (by decide)) (Or.inr (by decide)) (Or.inr (by decide)) (Or.inr (by decide)) (Or.inr (by decide)) (Or.inr (by decide)) (Or.inr (by decide)) (Or.inr (by decide)) (Or.inr (by decide))).trans hv53768
  have hfr : ∀ b j : Nat, (tag b ≠ 18 ∨ j ≠ 8) → (tag b ≠ 24 ∨ j ≠ 2) → (tag b ≠ 24 ∨ j ≠ 3) → (tag b ≠ 24 ∨ j ≠ 4) → (tag b ≠ 24 ∨ j ≠ 5) → (tag b ≠ 24 ∨ j ≠ 6) → (tag b ≠ 24 ∨ j ≠ 7) → (tag b ≠ 25 ∨ j ≠ 3) → (tag b ≠ 25 ∨ j ≠ 4) → (tag b ≠ 25 ∨ j ≠ 12) → fld F b j = fld Fo b j := fun b j n18_8 n24_2 n24_3 n24_4 n24_5 n24_6 n24_7 n25_3 n25_4 n25_12 => (yz53770 b j n24_2 n24_3 n24_4 n24_5 n24_6 n24_7 n25_3 n25_4 n25_12).trans (hfr b j n18_8 n24_2 n24_3 n24_4 n24_5 n24_6 n24_7 n25_3 n25_4 n25_12)
  refine lv_aload_n hx hb dX3_readStone_14 rfl (lv_at hl 1 rfl) ?_
  refine t_get (C := RX3) (T := TX3) (N := 13) X hT m0 g0 rfl rfl 1 (by decide) qw_161 inlX3 rfl dX3_readStone_15 (fun v53771 hv53771 ov53771 => ?_)
  obtain rfl : v53771 = .ref x1 := hv53771.symm.trans pf1
  refine lv_iload_n hx hb dX3_readStone_18 rfl (lv_at hl 0 rfl) ?_
  refine lv_iconst (v := 0) hx hb dX3_readStone_19 (by decide) ?_
  refine lv_aload_n hx hb dX3_readStone_20 rfl (lv_at hl 1 rfl) ?_
  refine m_ldcK X 23 rfl dX3_readStone_21 ?_
  refine m_ldcK X 24 rfl dX3_readStone_23 ?_
  refine m_ldcK X 25 rfl dX3_readStone_25 ?_
  refine m_ldcK X 16 rfl dX3_readStone_27 ?_
  refine t_cVi (n := 4) (C := RX3) (T := TX3) (N := 13) (As := [.ref (G.2 (100 + 23)), .ref (G.2 (100 + 24)), .ref (G.2 (100 + 25)), .ref (G.2 (100 + 16))]) (rest := [.int 0, .int z53769, .ref x1]) X hT (kt129_X3_choice l G tag L F hT.2.2.2 p0 23 24 25 16 x0 x1 x2 x3 x4 x5 m0 g0 (by decide) (by decide) (by decide) (by decide) mx0 gx0 pf0 mx1 gx1 pf1 mx2 gx2 pf2 mx3 gx3 pf3 mx4 gx4 pf4 mx5 gx5 pf5) m0 g0 rfl rfl qw_323 qw_324 qw_325 qw_28 qw_326 ⟨rfl, by decide +kernel, by decide +kernel, by decide +kernel⟩ ⟨Nat.le_of_ble_eq_true rfl, Nat.le_of_ble_eq_true rfl⟩ hl rfl rfl (Nat.le_of_ble_eq_true rfl) dX3_readStone_29 ⟨Nat.le_of_ble_eq_true rfl, Nat.le_of_ble_eq_true rfl⟩ (fun z53772 F H locs hT hz53772 => ?_)
  obtain ⟨hz53772, yz53772⟩ := hz53772
  have pf0 := (yz53772.1 _ 0 (Or.inr (by decide)) (Or.inr (by decide)) (Or.inr (by decide)) (Or.inr (by decide)) (Or.inr (by decide)) (Or.inr (by decide)) (Or.inr (by decide)) (Or.inr (by decide))).trans pf0
  have pf1 := (yz53772.1 _ 1 (Or.inr (by decide)) (Or.inr (by decide)) (Or.inr (by decide)) (Or.inr (by decide)) (Or.inr (by decide)) (Or.inr (by decide)) (Or.inr (by decide)) (Or.inr (by decide))).trans pf1
  have pf2 := (yz53772.1 _ 2 (Or.inl (by rw [g0]; decide)) (Or.inr (by decide)) (Or.inr (by decide)) (Or.inr (by decide)) (Or.inr (by decide)) (Or.inr (by decide)) (Or.inr (by decide)) (Or.inr (by decide))).trans pf2
  have pf3 := (yz53772.1 _ 0 (Or.inr (by decide)) (Or.inr (by decide)) (Or.inr (by decide)) (Or.inr (by decide)) (Or.inr (by decide)) (Or.inr (by decide)) (Or.inr (by decide)) (Or.inr (by decide))).trans pf3
  have pf4 := (yz53772.1 _ 10 (Or.inr (by decide)) (Or.inr (by decide)) (Or.inr (by decide)) (Or.inr (by decide)) (Or.inr (by decide)) (Or.inr (by decide)) (Or.inr (by decide)) (Or.inr (by decide))).trans pf4
  have pf5 := (yz53772.1 _ 11 (Or.inr (by decide)) (Or.inr (by decide)) (Or.inr (by decide)) (Or.inr (by decide)) (Or.inr (by decide)) (Or.inr (by decide)) (Or.inr (by decide)) (Or.inr (by decide))).trans pf5
  have hv53768 := (yz53772.1 _ 8 (Or.inr (by decide)) (Or.inr (by decide)) (Or.inr (by decide)) (Or.inr (by decide)) (Or.inr (by decide)) (Or.inr (by decide)) (Or.inr (by decide)) (Or.inr (by decide))).trans hv53768
  have hfr : ∀ b j : Nat, (tag b ≠ 18 ∨ j ≠ 8) → (tag b ≠ 24 ∨ j ≠ 2) → (tag b ≠ 24 ∨ j ≠ 3) → (tag b ≠ 24 ∨ j ≠ 4) → (tag b ≠ 24 ∨ j ≠ 5) → (tag b ≠ 24 ∨ j ≠ 6) → (tag b ≠ 24 ∨ j ≠ 7) → (tag b ≠ 25 ∨ j ≠ 3) → (tag b ≠ 25 ∨ j ≠ 4) → (tag b ≠ 25 ∨ j ≠ 12) → fld F b j = fld Fo b j := fun b j n18_8 n24_2 n24_3 n24_4 n24_5 n24_6 n24_7 n25_3 n25_4 n25_12 => (yz53772.1 b j n24_2 n24_3 n24_4 n24_5 n24_6 n24_7 n25_3 n25_4).trans (hfr b j n18_8 n24_2 n24_3 n24_4 n24_5 n24_6 n24_7 n25_3 n25_4 n25_12)
  have hrel := nsr_of (fun j => yz53772.2 _ j (Or.inl gx4)) (fun j => yz53772.2 _ j (Or.inr gx5)) hrel
  refine t_cVv (n := 3) (C := RX1) (T := TX1) (N := 20) (As := [.int z53769, .int 0, .int z53772]) (rest := []) X hT (kt10_X1_setStonePart l G tag L F hT.2.2.2 x1 z53769 0 z53772 mx1 gx1) mx1 gx1 rfl rfl qw_365 qw_366 qw_367 qw_17 qw_368 ⟨rfl, by decide +kernel, by decide +kernel, by decide +kernel⟩ ⟨Nat.le_of_ble_eq_true rfl, Nat.le_of_ble_eq_true rfl⟩ hl rfl rfl (Nat.le_of_ble_eq_true rfl) dX3_readStone_32 ⟨Nat.le_of_ble_eq_true rfl, Nat.le_of_ble_eq_true rfl⟩ (fun F H locs hT hz53773 => ?_)
  have yz53773 := hz53773
  have pf0 := (yz53773.1 _ 0 ).trans pf0
  have pf1 := (yz53773.1 _ 1 ).trans pf1
  have pf2 := (yz53773.1 _ 2 ).trans pf2
  have pf3 := (yz53773.1 _ 0 ).trans pf3
  have pf4 := (yz53773.1 _ 10 ).trans pf4
  have pf5 := (yz53773.1 _ 11 ).trans pf5
  have hv53768 := (yz53773.1 _ 8 ).trans hv53768
  have hfr : ∀ b j : Nat, (tag b ≠ 18 ∨ j ≠ 8) → (tag b ≠ 24 ∨ j ≠ 2) → (tag b ≠ 24 ∨ j ≠ 3) → (tag b ≠ 24 ∨ j ≠ 4) → (tag b ≠ 24 ∨ j ≠ 5) → (tag b ≠ 24 ∨ j ≠ 6) → (tag b ≠ 24 ∨ j ≠ 7) → (tag b ≠ 25 ∨ j ≠ 3) → (tag b ≠ 25 ∨ j ≠ 4) → (tag b ≠ 25 ∨ j ≠ 12) → fld F b j = fld Fo b j := fun b j n18_8 n24_2 n24_3 n24_4 n24_5 n24_6 n24_7 n25_3 n25_4 n25_12 => (yz53773.1 b j ).trans (hfr b j n18_8 n24_2 n24_3 n24_4 n24_5 n24_6 n24_7 n25_3 n25_4 n25_12)
  have hrel := nsr_of (fun j => yz53773.2 _ j (Or.inl gx4)) (fun j => yz53773.2 _ j (Or.inr gx5)) hrel
  refine lv_aload_n hx hb dX3_readStone_35 rfl (lv_at hl 1 rfl) ?_
  refine m_ldcKw X 26 rfl dX3_readStone_36 ?_
  refine t_cVv (n := 1) (C := RX3) (T := TX3) (N := 13) (As := [.ref (G.2 (100 + 26))]) (rest := []) X hT (kt115_X3_word l G tag L F hT.2.2.2 p0 26 x0 x1 x2 x3 x4 x5 m0 g0 (by decide) mx0 gx0 pf0 mx1 gx1 pf1 mx2 gx2 pf2 mx3 gx3 pf3 mx4 gx4 pf4 mx5 gx5 pf5) m0 g0 rfl rfl qw_314 qw_315 qw_316 qw_28 qw_317 ⟨rfl, by decide +kernel, by decide +kernel, by decide +kernel⟩ ⟨Nat.le_of_ble_eq_true rfl, Nat.le_of_ble_eq_true rfl⟩ hl rfl rfl (Nat.le_of_ble_eq_true rfl) dX3_readStone_39 ⟨Nat.le_of_ble_eq_true rfl, Nat.le_of_ble_eq_true rfl⟩ (fun F H locs hT hz53774 => ?_)
  have yz53774 := hz53774
  have pf0 := (yz53774.1 _ 0 (Or.inr (by decide)) (Or.inr (by decide)) (Or.inr (by decide)) (Or.inr (by decide)) (Or.inr (by decide)) (Or.inr (by decide)) (Or.inr (by decide)) (Or.inr (by decide))).trans pf0
  have pf1 := (yz53774.1 _ 1 (Or.inr (by decide)) (Or.inr (by decide)) (Or.inr (by decide)) (Or.inr (by decide)) (Or.inr (by decide)) (Or.inr (by decide)) (Or.inr (by decide)) (Or.inr (by decide))).trans pf1
  have pf2 := (yz53774.1 _ 2 (Or.inl (by rw [g0]; decide)) (Or.inr (by decide)) (Or.inr (by decide)) (Or.inr (by decide)) (Or.inr (by decide)) (Or.inr (by decide)) (Or.inr (by decide)) (Or.inr (by decide))).trans pf2
  have pf3 := (yz53774.1 _ 0 (Or.inr (by decide)) (Or.inr (by decide)) (Or.inr (by decide)) (Or.inr (by decide)) (Or.inr (by decide)) (Or.inr (by decide)) (Or.inr (by decide)) (Or.inr (by decide))).trans pf3
  have pf4 := (yz53774.1 _ 10 (Or.inr (by decide)) (Or.inr (by decide)) (Or.inr (by decide)) (Or.inr (by decide)) (Or.inr (by decide)) (Or.inr (by decide)) (Or.inr (by decide)) (Or.inr (by decide))).trans pf4
  have pf5 := (yz53774.1 _ 11 (Or.inr (by decide)) (Or.inr (by decide)) (Or.inr (by decide)) (Or.inr (by decide)) (Or.inr (by decide)) (Or.inr (by decide)) (Or.inr (by decide)) (Or.inr (by decide))).trans pf5
  have hv53768 := (yz53774.1 _ 8 (Or.inr (by decide)) (Or.inr (by decide)) (Or.inr (by decide)) (Or.inr (by decide)) (Or.inr (by decide)) (Or.inr (by decide)) (Or.inr (by decide)) (Or.inr (by decide))).trans hv53768
  have hfr : ∀ b j : Nat, (tag b ≠ 18 ∨ j ≠ 8) → (tag b ≠ 24 ∨ j ≠ 2) → (tag b ≠ 24 ∨ j ≠ 3) → (tag b ≠ 24 ∨ j ≠ 4) → (tag b ≠ 24 ∨ j ≠ 5) → (tag b ≠ 24 ∨ j ≠ 6) → (tag b ≠ 24 ∨ j ≠ 7) → (tag b ≠ 25 ∨ j ≠ 3) → (tag b ≠ 25 ∨ j ≠ 4) → (tag b ≠ 25 ∨ j ≠ 12) → fld F b j = fld Fo b j := fun b j n18_8 n24_2 n24_3 n24_4 n24_5 n24_6 n24_7 n25_3 n25_4 n25_12 => (yz53774.1 b j n24_2 n24_3 n24_4 n24_5 n24_6 n24_7 n25_3 n25_4).trans (hfr b j n18_8 n24_2 n24_3 n24_4 n24_5 n24_6 n24_7 n25_3 n25_4 n25_12)
  have hrel := nsr_of (fun j => yz53774.2 _ j (Or.inl gx4)) (fun j => yz53774.2 _ j (Or.inr gx5)) hrel
  refine lv_aload_n hx hb dX3_readStone_42 rfl (lv_at hl 1 rfl) ?_
  refine t_get (C := RX3) (T := TX3) (N := 13) X hT m0 g0 rfl rfl 1 (by decide) qw_161 inlX3 rfl dX3_readStone_43 (fun v53775 hv53775 ov53775 => ?_)
  obtain rfl : v53775 = .ref x1 := hv53775.symm.trans pf1
  refine lv_iload_n hx hb dX3_readStone_46 rfl (lv_at hl 0 rfl) ?_
  refine lv_iconst (v := 1) hx hb dX3_readStone_47 (by decide) ?_
  refine lv_aload_n hx hb dX3_readStone_48 rfl (lv_at hl 1 rfl) ?_
  refine lv_iconst (v := 1) hx hb dX3_readStone_49 (by decide) ?_
  refine lv_bipush (v := 9) hx hb dX3_readStone_50 (by decide) ?_
  refine t_cVi (n := 2) (C := RX3) (T := TX3) (N := 13) (As := [.int 1, .int 9]) (rest := [.int 1, .int z53769, .ref x1]) X hT (kt136_X3_whole l G tag L F hT.2.2.2 p0 1 9 x0 x1 x2 x3 x4 x5 m0 g0 (by decide) (by decide) mx0 gx0 pf0 mx1 gx1 pf1 mx2 gx2 pf2 mx3 gx3 pf3 mx4 gx4 pf4 mx5 gx5 pf5) m0 g0 rfl rfl qw_318 qw_319 qw_320 qw_28 qw_321 ⟨rfl, by decide +kernel, by decide +kernel, by decide +kernel⟩ ⟨Nat.le_of_ble_eq_true rfl, Nat.le_of_ble_eq_true rfl⟩ hl rfl rfl (Nat.le_of_ble_eq_true rfl) dX3_readStone_52 ⟨Nat.le_of_ble_eq_true rfl, Nat.le_of_ble_eq_true rfl⟩ (fun z53776 F H locs hT hz53776 => ?_)
  obtain ⟨hz53776, yz53776⟩ := hz53776
  have pf0 := (yz53776.1 _ 0 (Or.inr (by decide)) (Or.inr (by decide)) (Or.inr (by decide)) (Or.inr (by decide)) (Or.inr (by decide)) (Or.inr (by decide)) (Or.inr (by decide)) (Or.inr (by decide))).trans pf0
  have pf1 := (yz53776.1 _ 1 (Or.inr (by decide)) (Or.inr (by decide)) (Or.inr (by decide)) (Or.inr (by decide)) (Or.inr (by decide)) (Or.inr (by decide)) (Or.inr (by decide)) (Or.inr (by decide))).trans pf1
  have pf2 := (yz53776.1 _ 2 (Or.inl (by rw [g0]; decide)) (Or.inr (by decide)) (Or.inr (by decide)) (Or.inr (by decide)) (Or.inr (by decide)) (Or.inr (by decide)) (Or.inr (by decide)) (Or.inr (by decide))).trans pf2
  have pf3 := (yz53776.1 _ 0 (Or.inr (by decide)) (Or.inr (by decide)) (Or.inr (by decide)) (Or.inr (by decide)) (Or.inr (by decide)) (Or.inr (by decide)) (Or.inr (by decide)) (Or.inr (by decide))).trans pf3
  have pf4 := (yz53776.1 _ 10 (Or.inr (by decide)) (Or.inr (by decide)) (Or.inr (by decide)) (Or.inr (by decide)) (Or.inr (by decide)) (Or.inr (by decide)) (Or.inr (by decide)) (Or.inr (by decide))).trans pf4
  have pf5 := (yz53776.1 _ 11 (Or.inr (by decide)) (Or.inr (by decide)) (Or.inr (by decide)) (Or.inr (by decide)) (Or.inr (by decide)) (Or.inr (by decide)) (Or.inr (by decide)) (Or.inr (by decide))).trans pf5
  have hv53768 := (yz53776.1 _ 8 (Or.inr (by decide)) (Or.inr (by decide)) (Or.inr (by decide)) (Or.inr (by decide)) (Or.inr (by decide)) (Or.inr (by decide)) (Or.inr (by decide)) (Or.inr (by decide))).trans hv53768
  have hfr : ∀ b j : Nat, (tag b ≠ 18 ∨ j ≠ 8) → (tag b ≠ 24 ∨ j ≠ 2) → (tag b ≠ 24 ∨ j ≠ 3) → (tag b ≠ 24 ∨ j ≠ 4) → (tag b ≠ 24 ∨ j ≠ 5) → (tag b ≠ 24 ∨ j ≠ 6) → (tag b ≠ 24 ∨ j ≠ 7) → (tag b ≠ 25 ∨ j ≠ 3) → (tag b ≠ 25 ∨ j ≠ 4) → (tag b ≠ 25 ∨ j ≠ 12) → fld F b j = fld Fo b j := fun b j n18_8 n24_2 n24_3 n24_4 n24_5 n24_6 n24_7 n25_3 n25_4 n25_12 => (yz53776.1 b j n24_2 n24_3 n24_4 n24_5 n24_6 n24_7 n25_3 n25_4).trans (hfr b j n18_8 n24_2 n24_3 n24_4 n24_5 n24_6 n24_7 n25_3 n25_4 n25_12)
  have hrel := nsr_of (fun j => yz53776.2 _ j (Or.inl gx4)) (fun j => yz53776.2 _ j (Or.inr gx5)) hrel
  refine t_cVv (n := 3) (C := RX1) (T := TX1) (N := 20) (As := [.int z53769, .int 1, .int z53776]) (rest := []) X hT (kt10_X1_setStonePart l G tag L F hT.2.2.2 x1 z53769 1 z53776 mx1 gx1) mx1 gx1 rfl rfl qw_365 qw_366 qw_367 qw_17 qw_368 ⟨rfl, by decide +kernel, by decide +kernel, by decide +kernel⟩ ⟨Nat.le_of_ble_eq_true rfl, Nat.le_of_ble_eq_true rfl⟩ hl rfl rfl (Nat.le_of_ble_eq_true rfl) dX3_readStone_55 ⟨Nat.le_of_ble_eq_true rfl, Nat.le_of_ble_eq_true rfl⟩ (fun F H locs hT hz53777 => ?_)
  have yz53777 := hz53777
  have pf0 := (yz53777.1 _ 0 ).trans pf0
  have pf1 := (yz53777.1 _ 1 ).trans pf1
  have pf2 := (yz53777.1 _ 2 ).trans pf2
  have pf3 := (yz53777.1 _ 0 ).trans pf3
  have pf4 := (yz53777.1 _ 10 ).trans pf4
  have pf5 := (yz53777.1 _ 11 ).trans pf5
  have hv53768 := (yz53777.1 _ 8 ).trans hv53768
  have hfr : ∀ b j : Nat, (tag b ≠ 18 ∨ j ≠ 8) → (tag b ≠ 24 ∨ j ≠ 2) → (tag b ≠ 24 ∨ j ≠ 3) → (tag b ≠ 24 ∨ j ≠ 4) → (tag b ≠ 24 ∨ j ≠ 5) → (tag b ≠ 24 ∨ j ≠ 6) → (tag b ≠ 24 ∨ j ≠ 7) → (tag b ≠ 25 ∨ j ≠ 3) → (tag b ≠ 25 ∨ j ≠ 4) → (tag b ≠ 25 ∨ j ≠ 12) → fld F b j = fld Fo b j := fun b j n18_8 n24_2 n24_3 n24_4 n24_5 n24_6 n24_7 n25_3 n25_4 n25_12 => (yz53777.1 b j ).trans (hfr b j n18_8 n24_2 n24_3 n24_4 n24_5 n24_6 n24_7 n25_3 n25_4 n25_12)
  have hrel := nsr_of (fun j => yz53777.2 _ j (Or.inl gx4)) (fun j => yz53777.2 _ j (Or.inr gx5)) hrel
  refine lv_aload_n hx hb dX3_readStone_58 rfl (lv_at hl 1 rfl) ?_
  refine m_ldcKw X 27 rfl dX3_readStone_59 ?_
  refine t_cVv (n := 1) (C := RX3) (T := TX3) (N := 13) (As := [.ref (G.2 (100 + 27))]) (rest := []) X hT (kt115_X3_word l G tag L F hT.2.2.2 p0 27 x0 x1 x2 x3 x4 x5 m0 g0 (by decide) mx0 gx0 pf0 mx1 gx1 pf1 mx2 gx2 pf2 mx3 gx3 pf3 mx4 gx4 pf4 mx5 gx5 pf5) m0 g0 rfl rfl qw_314 qw_315 qw_316 qw_28 qw_317 ⟨rfl, by decide +kernel, by decide +kernel, by decide +kernel⟩ ⟨Nat.le_of_ble_eq_true rfl, Nat.le_of_ble_eq_true rfl⟩ hl rfl rfl (Nat.le_of_ble_eq_true rfl) dX3_readStone_62 ⟨Nat.le_of_ble_eq_true rfl, Nat.le_of_ble_eq_true rfl⟩ (fun F H locs hT hz53778 => ?_)
  have yz53778 := hz53778
  have pf0 := (yz53778.1 _ 0 (Or.inr (by decide)) (Or.inr (by decide)) (Or.inr (by decide)) (Or.inr (by decide)) (Or.inr (by decide)) (Or.inr (by decide)) (Or.inr (by decide)) (Or.inr (by decide))).trans pf0
  have pf1 := (yz53778.1 _ 1 (Or.inr (by decide)) (Or.inr (by decide)) (Or.inr (by decide)) (Or.inr (by decide)) (Or.inr (by decide)) (Or.inr (by decide)) (Or.inr (by decide)) (Or.inr (by decide))).trans pf1
  have pf2 := (yz53778.1 _ 2 (Or.inl (by rw [g0]; decide)) (Or.inr (by decide)) (Or.inr (by decide)) (Or.inr (by decide)) (Or.inr (by decide)) (Or.inr (by decide)) (Or.inr (by decide)) (Or.inr (by decide))).trans pf2
  have pf3 := (yz53778.1 _ 0 (Or.inr (by decide)) (Or.inr (by decide)) (Or.inr (by decide)) (Or.inr (by decide)) (Or.inr (by decide)) (Or.inr (by decide)) (Or.inr (by decide)) (Or.inr (by decide))).trans pf3
  have pf4 := (yz53778.1 _ 10 (Or.inr (by decide)) (Or.inr (by decide)) (Or.inr (by decide)) (Or.inr (by decide)) (Or.inr (by decide)) (Or.inr (by decide)) (Or.inr (by decide)) (Or.inr (by decide))).trans pf4
  have pf5 := (yz53778.1 _ 11 (Or.inr (by decide)) (Or.inr (by decide)) (Or.inr (by decide)) (Or.inr (by decide)) (Or.inr (by decide)) (Or.inr (by decide)) (Or.inr (by decide)) (Or.inr (by decide))).trans pf5
  have hv53768 := (yz53778.1 _ 8 (Or.inr (by decide)) (Or.inr (by decide)) (Or.inr (by decide)) (Or.inr (by decide)) (Or.inr (by decide)) (Or.inr (by decide)) (Or.inr (by decide)) (Or.inr (by decide))).trans hv53768
  have hfr : ∀ b j : Nat, (tag b ≠ 18 ∨ j ≠ 8) → (tag b ≠ 24 ∨ j ≠ 2) → (tag b ≠ 24 ∨ j ≠ 3) → (tag b ≠ 24 ∨ j ≠ 4) → (tag b ≠ 24 ∨ j ≠ 5) → (tag b ≠ 24 ∨ j ≠ 6) → (tag b ≠ 24 ∨ j ≠ 7) → (tag b ≠ 25 ∨ j ≠ 3) → (tag b ≠ 25 ∨ j ≠ 4) → (tag b ≠ 25 ∨ j ≠ 12) → fld F b j = fld Fo b j := fun b j n18_8 n24_2 n24_3 n24_4 n24_5 n24_6 n24_7 n25_3 n25_4 n25_12 => (yz53778.1 b j n24_2 n24_3 n24_4 n24_5 n24_6 n24_7 n25_3 n25_4).trans (hfr b j n18_8 n24_2 n24_3 n24_4 n24_5 n24_6 n24_7 n25_3 n25_4 n25_12)
  have hrel := nsr_of (fun j => yz53778.2 _ j (Or.inl gx4)) (fun j => yz53778.2 _ j (Or.inr gx5)) hrel
  refine lv_aload_n hx hb dX3_readStone_65 rfl (lv_at hl 1 rfl) ?_
  refine t_get (C := RX3) (T := TX3) (N := 13) X hT m0 g0 rfl rfl 1 (by decide) qw_161 inlX3 rfl dX3_readStone_66 (fun v53779 hv53779 ov53779 => ?_)
  obtain rfl : v53779 = .ref x1 := hv53779.symm.trans pf1
  refine lv_iload_n hx hb dX3_readStone_69 rfl (lv_at hl 0 rfl) ?_
  refine lv_iconst (v := 2) hx hb dX3_readStone_70 (by decide) ?_
  refine lv_aload_n hx hb dX3_readStone_71 rfl (lv_at hl 1 rfl) ?_
  refine lv_iconst (v := 0) hx hb dX3_readStone_72 (by decide) ?_
  refine lv_bipush (v := 9) hx hb dX3_readStone_73 (by decide) ?_
  refine t_cVi (n := 2) (C := RX3) (T := TX3) (N := 13) (As := [.int 0, .int 9]) (rest := [.int 2, .int z53769, .ref x1]) X hT (kt116_X3_whole l G tag L F hT.2.2.2 p0 0 9 x0 x1 x2 x3 x4 x5 m0 g0 (by decide) (by decide) mx0 gx0 pf0 mx1 gx1 pf1 mx2 gx2 pf2 mx3 gx3 pf3 mx4 gx4 pf4 mx5 gx5 pf5) m0 g0 rfl rfl qw_318 qw_319 qw_320 qw_28 qw_321 ⟨rfl, by decide +kernel, by decide +kernel, by decide +kernel⟩ ⟨Nat.le_of_ble_eq_true rfl, Nat.le_of_ble_eq_true rfl⟩ hl rfl rfl (Nat.le_of_ble_eq_true rfl) dX3_readStone_75 ⟨Nat.le_of_ble_eq_true rfl, Nat.le_of_ble_eq_true rfl⟩ (fun z53780 F H locs hT hz53780 => ?_)
  obtain ⟨hz53780, yz53780⟩ := hz53780
  have pf0 := (yz53780.1 _ 0 (Or.inr (by decide)) (Or.inr (by decide)) (Or.inr (by decide)) (Or.inr (by decide)) (Or.inr (by decide)) (Or.inr (by decide)) (Or.inr (by decide)) (Or.inr (by decide))).trans pf0
  have pf1 := (yz53780.1 _ 1 (Or.inr (by decide)) (Or.inr (by decide)) (Or.inr (by decide)) (Or.inr (by decide)) (Or.inr (by decide)) (Or.inr (by decide)) (Or.inr (by decide)) (Or.inr (by decide))).trans pf1
  have pf2 := (yz53780.1 _ 2 (Or.inl (by rw [g0]; decide)) (Or.inr (by decide)) (Or.inr (by decide)) (Or.inr (by decide)) (Or.inr (by decide)) (Or.inr (by decide)) (Or.inr (by decide)) (Or.inr (by decide))).trans pf2
  have pf3 := (yz53780.1 _ 0 (Or.inr (by decide)) (Or.inr (by decide)) (Or.inr (by decide)) (Or.inr (by decide)) (Or.inr (by decide)) (Or.inr (by decide)) (Or.inr (by decide)) (Or.inr (by decide))).trans pf3
  have pf4 := (yz53780.1 _ 10 (Or.inr (by decide)) (Or.inr (by decide)) (Or.inr (by decide)) (Or.inr (by decide)) (Or.inr (by decide)) (Or.inr (by decide)) (Or.inr (by decide)) (Or.inr (by decide))).trans pf4
  have pf5 := (yz53780.1 _ 11 (Or.inr (by decide)) (Or.inr (by decide)) (Or.inr (by decide)) (Or.inr (by decide)) (Or.inr (by decide)) (Or.inr (by decide)) (Or.inr (by decide)) (Or.inr (by decide))).trans pf5
  have hv53768 := (yz53780.1 _ 8 (Or.inr (by decide)) (Or.inr (by decide)) (Or.inr (by decide)) (Or.inr (by decide)) (Or.inr (by decide)) (Or.inr (by decide)) (Or.inr (by decide)) (Or.inr (by decide))).trans hv53768
  have hfr : ∀ b j : Nat, (tag b ≠ 18 ∨ j ≠ 8) → (tag b ≠ 24 ∨ j ≠ 2) → (tag b ≠ 24 ∨ j ≠ 3) → (tag b ≠ 24 ∨ j ≠ 4) → (tag b ≠ 24 ∨ j ≠ 5) → (tag b ≠ 24 ∨ j ≠ 6) → (tag b ≠ 24 ∨ j ≠ 7) → (tag b ≠ 25 ∨ j ≠ 3) → (tag b ≠ 25 ∨ j ≠ 4) → (tag b ≠ 25 ∨ j ≠ 12) → fld F b j = fld Fo b j := fun b j n18_8 n24_2 n24_3 n24_4 n24_5 n24_6 n24_7 n25_3 n25_4 n25_12 => (yz53780.1 b j n24_2 n24_3 n24_4 n24_5 n24_6 n24_7 n25_3 n25_4).trans (hfr b j n18_8 n24_2 n24_3 n24_4 n24_5 n24_6 n24_7 n25_3 n25_4 n25_12)
  have hrel := nsr_of (fun j => yz53780.2 _ j (Or.inl gx4)) (fun j => yz53780.2 _ j (Or.inr gx5)) hrel
  refine t_cVv (n := 3) (C := RX1) (T := TX1) (N := 20) (As := [.int z53769, .int 2, .int z53780]) (rest := []) X hT (kt10_X1_setStonePart l G tag L F hT.2.2.2 x1 z53769 2 z53780 mx1 gx1) mx1 gx1 rfl rfl qw_365 qw_366 qw_367 qw_17 qw_368 ⟨rfl, by decide +kernel, by decide +kernel, by decide +kernel⟩ ⟨Nat.le_of_ble_eq_true rfl, Nat.le_of_ble_eq_true rfl⟩ hl rfl rfl (Nat.le_of_ble_eq_true rfl) dX3_readStone_78 ⟨Nat.le_of_ble_eq_true rfl, Nat.le_of_ble_eq_true rfl⟩ (fun F H locs hT hz53781 => ?_)
  have yz53781 := hz53781
  have pf0 := (yz53781.1 _ 0 ).trans pf0
  have pf1 := (yz53781.1 _ 1 ).trans pf1
  have pf2 := (yz53781.1 _ 2 ).trans pf2
  have pf3 := (yz53781.1 _ 0 ).trans pf3
  have pf4 := (yz53781.1 _ 10 ).trans pf4
  have pf5 := (yz53781.1 _ 11 ).trans pf5
  have hv53768 := (yz53781.1 _ 8 ).trans hv53768
  have hfr : ∀ b j : Nat, (tag b ≠ 18 ∨ j ≠ 8) → (tag b ≠ 24 ∨ j ≠ 2) → (tag b ≠ 24 ∨ j ≠ 3) → (tag b ≠ 24 ∨ j ≠ 4) → (tag b ≠ 24 ∨ j ≠ 5) → (tag b ≠ 24 ∨ j ≠ 6) → (tag b ≠ 24 ∨ j ≠ 7) → (tag b ≠ 25 ∨ j ≠ 3) → (tag b ≠ 25 ∨ j ≠ 4) → (tag b ≠ 25 ∨ j ≠ 12) → fld F b j = fld Fo b j := fun b j n18_8 n24_2 n24_3 n24_4 n24_5 n24_6 n24_7 n25_3 n25_4 n25_12 => (yz53781.1 b j ).trans (hfr b j n18_8 n24_2 n24_3 n24_4 n24_5 n24_6 n24_7 n25_3 n25_4 n25_12)
  have hrel := nsr_of (fun j => yz53781.2 _ j (Or.inl gx4)) (fun j => yz53781.2 _ j (Or.inr gx5)) hrel
  refine lv_aload_n hx hb dX3_readStone_81 rfl (lv_at hl 1 rfl) ?_
  refine m_ldcKw X 28 rfl dX3_readStone_82 ?_
  refine t_cVv (n := 1) (C := RX3) (T := TX3) (N := 13) (As := [.ref (G.2 (100 + 28))]) (rest := []) X hT (kt115_X3_word l G tag L F hT.2.2.2 p0 28 x0 x1 x2 x3 x4 x5 m0 g0 (by decide) mx0 gx0 pf0 mx1 gx1 pf1 mx2 gx2 pf2 mx3 gx3 pf3 mx4 gx4 pf4 mx5 gx5 pf5) m0 g0 rfl rfl qw_314 qw_315 qw_316 qw_28 qw_317 ⟨rfl, by decide +kernel, by decide +kernel, by decide +kernel⟩ ⟨Nat.le_of_ble_eq_true rfl, Nat.le_of_ble_eq_true rfl⟩ hl rfl rfl (Nat.le_of_ble_eq_true rfl) dX3_readStone_85 ⟨Nat.le_of_ble_eq_true rfl, Nat.le_of_ble_eq_true rfl⟩ (fun F H locs hT hz53782 => ?_)
  have yz53782 := hz53782
  have pf0 := (yz53782.1 _ 0 (Or.inr (by decide)) (Or.inr (by decide)) (Or.inr (by decide)) (Or.inr (by decide)) (Or.inr (by decide)) (Or.inr (by decide)) (Or.inr (by decide)) (Or.inr (by decide))).trans pf0
  have pf1 := (yz53782.1 _ 1 (Or.inr (by decide)) (Or.inr (by decide)) (Or.inr (by decide)) (Or.inr (by decide)) (Or.inr (by decide)) (Or.inr (by decide)) (Or.inr (by decide)) (Or.inr (by decide))).trans pf1
  have pf2 := (yz53782.1 _ 2 (Or.inl (by rw [g0]; decide)) (Or.inr (by decide)) (Or.inr (by decide)) (Or.inr (by decide)) (Or.inr (by decide)) (Or.inr (by decide)) (Or.inr (by decide)) (Or.inr (by decide))).trans pf2
  have pf3 := (yz53782.1 _ 0 (Or.inr (by decide)) (Or.inr (by decide)) (Or.inr (by decide)) (Or.inr (by decide)) (Or.inr (by decide)) (Or.inr (by decide)) (Or.inr (by decide)) (Or.inr (by decide))).trans pf3
  have pf4 := (yz53782.1 _ 10 (Or.inr (by decide)) (Or.inr (by decide)) (Or.inr (by decide)) (Or.inr (by decide)) (Or.inr (by decide)) (Or.inr (by decide)) (Or.inr (by decide)) (Or.inr (by decide))).trans pf4
  have pf5 := (yz53782.1 _ 11 (Or.inr (by decide)) (Or.inr (by decide)) (Or.inr (by decide)) (Or.inr (by decide)) (Or.inr (by decide)) (Or.inr (by decide)) (Or.inr (by decide)) (Or.inr (by decide))).trans pf5
  have hv53768 := (yz53782.1 _ 8 (Or.inr (by decide)) (Or.inr (by decide)) (Or.inr (by decide)) (Or.inr (by decide)) (Or.inr (by decide)) (Or.inr (by decide)) (Or.inr (by decide)) (Or.inr (by decide))).trans hv53768
  have hfr : ∀ b j : Nat, (tag b ≠ 18 ∨ j ≠ 8) → (tag b ≠ 24 ∨ j ≠ 2) → (tag b ≠ 24 ∨ j ≠ 3) → (tag b ≠ 24 ∨ j ≠ 4) → (tag b ≠ 24 ∨ j ≠ 5) → (tag b ≠ 24 ∨ j ≠ 6) → (tag b ≠ 24 ∨ j ≠ 7) → (tag b ≠ 25 ∨ j ≠ 3) → (tag b ≠ 25 ∨ j ≠ 4) → (tag b ≠ 25 ∨ j ≠ 12) → fld F b j = fld Fo b j := fun b j n18_8 n24_2 n24_3 n24_4 n24_5 n24_6 n24_7 n25_3 n25_4 n25_12 => (yz53782.1 b j n24_2 n24_3 n24_4 n24_5 n24_6 n24_7 n25_3 n25_4).trans (hfr b j n18_8 n24_2 n24_3 n24_4 n24_5 n24_6 n24_7 n25_3 n25_4 n25_12)
  have hrel := nsr_of (fun j => yz53782.2 _ j (Or.inl gx4)) (fun j => yz53782.2 _ j (Or.inr gx5)) hrel
  refine lv_aload_n hx hb dX3_readStone_88 rfl (lv_at hl 1 rfl) ?_
  refine t_get (C := RX3) (T := TX3) (N := 13) X hT m0 g0 rfl rfl 1 (by decide) qw_161 inlX3 rfl dX3_readStone_89 (fun v53783 hv53783 ov53783 => ?_)
  obtain rfl : v53783 = .ref x1 := hv53783.symm.trans pf1
  refine lv_iload_n hx hb dX3_readStone_92 rfl (lv_at hl 0 rfl) ?_
  refine lv_iconst (v := 3) hx hb dX3_readStone_93 (by decide) ?_
  refine lv_aload_n hx hb dX3_readStone_94 rfl (lv_at hl 1 rfl) ?_
  refine lv_iconst (v := 0) hx hb dX3_readStone_95 (by decide) ?_
  refine lv_bipush (v := 9) hx hb dX3_readStone_96 (by decide) ?_
  refine t_cVi (n := 2) (C := RX3) (T := TX3) (N := 13) (As := [.int 0, .int 9]) (rest := [.int 3, .int z53769, .ref x1]) X hT (kt116_X3_whole l G tag L F hT.2.2.2 p0 0 9 x0 x1 x2 x3 x4 x5 m0 g0 (by decide) (by decide) mx0 gx0 pf0 mx1 gx1 pf1 mx2 gx2 pf2 mx3 gx3 pf3 mx4 gx4 pf4 mx5 gx5 pf5) m0 g0 rfl rfl qw_318 qw_319 qw_320 qw_28 qw_321 ⟨rfl, by decide +kernel, by decide +kernel, by decide +kernel⟩ ⟨Nat.le_of_ble_eq_true rfl, Nat.le_of_ble_eq_true rfl⟩ hl rfl rfl (Nat.le_of_ble_eq_true rfl) dX3_readStone_98 ⟨Nat.le_of_ble_eq_true rfl, Nat.le_of_ble_eq_true rfl⟩ (fun z53784 F H locs hT hz53784 => ?_)
  obtain ⟨hz53784, yz53784⟩ := hz53784
  have pf0 := (yz53784.1 _ 0 (Or.inr (by decide)) (Or.inr (by decide)) (Or.inr (by decide)) (Or.inr (by decide)) (Or.inr (by decide)) (Or.inr (by decide)) (Or.inr (by decide)) (Or.inr (by decide))).trans pf0
  have pf1 := (yz53784.1 _ 1 (Or.inr (by decide)) (Or.inr (by decide)) (Or.inr (by decide)) (Or.inr (by decide)) (Or.inr (by decide)) (Or.inr (by decide)) (Or.inr (by decide)) (Or.inr (by decide))).trans pf1
  have pf2 := (yz53784.1 _ 2 (Or.inl (by rw [g0]; decide)) (Or.inr (by decide)) (Or.inr (by decide)) (Or.inr (by decide)) (Or.inr (by decide)) (Or.inr (by decide)) (Or.inr (by decide)) (Or.inr (by decide))).trans pf2
  have pf3 := (yz53784.1 _ 0 (Or.inr (by decide)) (Or.inr (by decide)) (Or.inr (by decide)) (Or.inr (by decide)) (Or.inr (by decide)) (Or.inr (by decide)) (Or.inr (by decide)) (Or.inr (by decide))).trans pf3
  have pf4 := (yz53784.1 _ 10 (Or.inr (by decide)) (Or.inr (by decide)) (Or.inr (by decide)) (Or.inr (by decide)) (Or.inr (by decide)) (Or.inr (by decide)) (Or.inr (by decide)) (Or.inr (by decide))).trans pf4
  have pf5 := (yz53784.1 _ 11 (Or.inr (by decide)) (Or.inr (by decide)) (Or.inr (by decide)) (Or.inr (by decide)) (Or.inr (by decide)) (Or.inr (by decide)) (Or.inr (by decide)) (Or.inr (by decide))).trans pf5
  have hv53768 := (yz53784.1 _ 8 (Or.inr (by decide)) (Or.inr (by decide)) (Or.inr (by decide)) (Or.inr (by decide)) (Or.inr (by decide)) (Or.inr (by decide)) (Or.inr (by decide)) (Or.inr (by decide))).trans hv53768
  have hfr : ∀ b j : Nat, (tag b ≠ 18 ∨ j ≠ 8) → (tag b ≠ 24 ∨ j ≠ 2) → (tag b ≠ 24 ∨ j ≠ 3) → (tag b ≠ 24 ∨ j ≠ 4) → (tag b ≠ 24 ∨ j ≠ 5) → (tag b ≠ 24 ∨ j ≠ 6) → (tag b ≠ 24 ∨ j ≠ 7) → (tag b ≠ 25 ∨ j ≠ 3) → (tag b ≠ 25 ∨ j ≠ 4) → (tag b ≠ 25 ∨ j ≠ 12) → fld F b j = fld Fo b j := fun b j n18_8 n24_2 n24_3 n24_4 n24_5 n24_6 n24_7 n25_3 n25_4 n25_12 => (yz53784.1 b j n24_2 n24_3 n24_4 n24_5 n24_6 n24_7 n25_3 n25_4).trans (hfr b j n18_8 n24_2 n24_3 n24_4 n24_5 n24_6 n24_7 n25_3 n25_4 n25_12)
  have hrel := nsr_of (fun j => yz53784.2 _ j (Or.inl gx4)) (fun j => yz53784.2 _ j (Or.inr gx5)) hrel
  refine t_cVv (n := 3) (C := RX1) (T := TX1) (N := 20) (As := [.int z53769, .int 3, .int z53784]) (rest := []) X hT (kt10_X1_setStonePart l G tag L F hT.2.2.2 x1 z53769 3 z53784 mx1 gx1) mx1 gx1 rfl rfl qw_365 qw_366 qw_367 qw_17 qw_368 ⟨rfl, by decide +kernel, by decide +kernel, by decide +kernel⟩ ⟨Nat.le_of_ble_eq_true rfl, Nat.le_of_ble_eq_true rfl⟩ hl rfl rfl (Nat.le_of_ble_eq_true rfl) dX3_readStone_101 ⟨Nat.le_of_ble_eq_true rfl, Nat.le_of_ble_eq_true rfl⟩ (fun F H locs hT hz53785 => ?_)
  have yz53785 := hz53785
  have pf0 := (yz53785.1 _ 0 ).trans pf0
  have pf1 := (yz53785.1 _ 1 ).trans pf1
  have pf2 := (yz53785.1 _ 2 ).trans pf2
  have pf3 := (yz53785.1 _ 0 ).trans pf3
  have pf4 := (yz53785.1 _ 10 ).trans pf4
  have pf5 := (yz53785.1 _ 11 ).trans pf5
  have hv53768 := (yz53785.1 _ 8 ).trans hv53768
  have hfr : ∀ b j : Nat, (tag b ≠ 18 ∨ j ≠ 8) → (tag b ≠ 24 ∨ j ≠ 2) → (tag b ≠ 24 ∨ j ≠ 3) → (tag b ≠ 24 ∨ j ≠ 4) → (tag b ≠ 24 ∨ j ≠ 5) → (tag b ≠ 24 ∨ j ≠ 6) → (tag b ≠ 24 ∨ j ≠ 7) → (tag b ≠ 25 ∨ j ≠ 3) → (tag b ≠ 25 ∨ j ≠ 4) → (tag b ≠ 25 ∨ j ≠ 12) → fld F b j = fld Fo b j := fun b j n18_8 n24_2 n24_3 n24_4 n24_5 n24_6 n24_7 n25_3 n25_4 n25_12 => (yz53785.1 b j ).trans (hfr b j n18_8 n24_2 n24_3 n24_4 n24_5 n24_6 n24_7 n25_3 n25_4 n25_12)
  have hrel := nsr_of (fun j => yz53785.2 _ j (Or.inl gx4)) (fun j => yz53785.2 _ j (Or.inr gx5)) hrel
  refine lv_aload_n hx hb dX3_readStone_104 rfl (lv_at hl 1 rfl) ?_
  refine m_ldcKw X 29 rfl dX3_readStone_105 ?_
  refine t_cVv (n := 1) (C := RX3) (T := TX3) (N := 13) (As := [.ref (G.2 (100 + 29))]) (rest := []) X hT (kt115_X3_word l G tag L F hT.2.2.2 p0 29 x0 x1 x2 x3 x4 x5 m0 g0 (by decide) mx0 gx0 pf0 mx1 gx1 pf1 mx2 gx2 pf2 mx3 gx3 pf3 mx4 gx4 pf4 mx5 gx5 pf5) m0 g0 rfl rfl qw_314 qw_315 qw_316 qw_28 qw_317 ⟨rfl, by decide +kernel, by decide +kernel, by decide +kernel⟩ ⟨Nat.le_of_ble_eq_true rfl, Nat.le_of_ble_eq_true rfl⟩ hl rfl rfl (Nat.le_of_ble_eq_true rfl) dX3_readStone_108 ⟨Nat.le_of_ble_eq_true rfl, Nat.le_of_ble_eq_true rfl⟩ (fun F H locs hT hz53786 => ?_)
  have yz53786 := hz53786
  have pf0 := (yz53786.1 _ 0 (Or.inr (by decide)) (Or.inr (by decide)) (Or.inr (by decide)) (Or.inr (by decide)) (Or.inr (by decide)) (Or.inr (by decide)) (Or.inr (by decide)) (Or.inr (by decide))).trans pf0
  have pf1 := (yz53786.1 _ 1 (Or.inr (by decide)) (Or.inr (by decide)) (Or.inr (by decide)) (Or.inr (by decide)) (Or.inr (by decide)) (Or.inr (by decide)) (Or.inr (by decide)) (Or.inr (by decide))).trans pf1
  have pf2 := (yz53786.1 _ 2 (Or.inl (by rw [g0]; decide)) (Or.inr (by decide)) (Or.inr (by decide)) (Or.inr (by decide)) (Or.inr (by decide)) (Or.inr (by decide)) (Or.inr (by decide)) (Or.inr (by decide))).trans pf2
  have pf3 := (yz53786.1 _ 0 (Or.inr (by decide)) (Or.inr (by decide)) (Or.inr (by decide)) (Or.inr (by decide)) (Or.inr (by decide)) (Or.inr (by decide)) (Or.inr (by decide)) (Or.inr (by decide))).trans pf3
  have pf4 := (yz53786.1 _ 10 (Or.inr (by decide)) (Or.inr (by decide)) (Or.inr (by decide)) (Or.inr (by decide)) (Or.inr (by decide)) (Or.inr (by decide)) (Or.inr (by decide)) (Or.inr (by decide))).trans pf4
  have pf5 := (yz53786.1 _ 11 (Or.inr (by decide)) (Or.inr (by decide)) (Or.inr (by decide)) (Or.inr (by decide)) (Or.inr (by decide)) (Or.inr (by decide)) (Or.inr (by decide)) (Or.inr (by decide))).trans pf5
  have hv53768 := (yz53786.1 _ 8 (Or.inr (by decide)) (Or.inr (by decide)) (Or.inr (by decide)) (Or.inr (by decide)) (Or.inr (by decide)) (Or.inr (by decide)) (Or.inr (by decide)) (Or.inr (by decide))).trans hv53768
  have hfr : ∀ b j : Nat, (tag b ≠ 18 ∨ j ≠ 8) → (tag b ≠ 24 ∨ j ≠ 2) → (tag b ≠ 24 ∨ j ≠ 3) → (tag b ≠ 24 ∨ j ≠ 4) → (tag b ≠ 24 ∨ j ≠ 5) → (tag b ≠ 24 ∨ j ≠ 6) → (tag b ≠ 24 ∨ j ≠ 7) → (tag b ≠ 25 ∨ j ≠ 3) → (tag b ≠ 25 ∨ j ≠ 4) → (tag b ≠ 25 ∨ j ≠ 12) → fld F b j = fld Fo b j := fun b j n18_8 n24_2 n24_3 n24_4 n24_5 n24_6 n24_7 n25_3 n25_4 n25_12 => (yz53786.1 b j n24_2 n24_3 n24_4 n24_5 n24_6 n24_7 n25_3 n25_4).trans (hfr b j n18_8 n24_2 n24_3 n24_4 n24_5 n24_6 n24_7 n25_3 n25_4 n25_12)
  have hrel := nsr_of (fun j => yz53786.2 _ j (Or.inl gx4)) (fun j => yz53786.2 _ j (Or.inr gx5)) hrel
  refine lv_aload_n hx hb dX3_readStone_111 rfl (lv_at hl 1 rfl) ?_
  refine t_get (C := RX3) (T := TX3) (N := 13) X hT m0 g0 rfl rfl 1 (by decide) qw_161 inlX3 rfl dX3_readStone_112 (fun v53787 hv53787 ov53787 => ?_)
  obtain rfl : v53787 = .ref x1 := hv53787.symm.trans pf1
  refine lv_iload_n hx hb dX3_readStone_115 rfl (lv_at hl 0 rfl) ?_
  refine lv_iconst (v := 4) hx hb dX3_readStone_116 (by decide) ?_
  refine lv_aload_n hx hb dX3_readStone_117 rfl (lv_at hl 1 rfl) ?_
  refine lv_iconst (v := 1) hx hb dX3_readStone_118 (by decide) ?_
  refine lv_bipush (v := 99) hx hb dX3_readStone_119 (by decide) ?_
  refine t_cVi (n := 2) (C := RX3) (T := TX3) (N := 13) (As := [.int 1, .int 99]) (rest := [.int 4, .int z53769, .ref x1]) X hT (kt137_X3_whole l G tag L F hT.2.2.2 p0 1 99 x0 x1 x2 x3 x4 x5 m0 g0 (by decide) (by decide) mx0 gx0 pf0 mx1 gx1 pf1 mx2 gx2 pf2 mx3 gx3 pf3 mx4 gx4 pf4 mx5 gx5 pf5) m0 g0 rfl rfl qw_318 qw_319 qw_320 qw_28 qw_321 ⟨rfl, by decide +kernel, by decide +kernel, by decide +kernel⟩ ⟨Nat.le_of_ble_eq_true rfl, Nat.le_of_ble_eq_true rfl⟩ hl rfl rfl (Nat.le_of_ble_eq_true rfl) dX3_readStone_121 ⟨Nat.le_of_ble_eq_true rfl, Nat.le_of_ble_eq_true rfl⟩ (fun z53788 F H locs hT hz53788 => ?_)
  obtain ⟨hz53788, yz53788⟩ := hz53788
  have pf0 := (yz53788.1 _ 0 (Or.inr (by decide)) (Or.inr (by decide)) (Or.inr (by decide)) (Or.inr (by decide)) (Or.inr (by decide)) (Or.inr (by decide)) (Or.inr (by decide)) (Or.inr (by decide))).trans pf0
  have pf1 := (yz53788.1 _ 1 (Or.inr (by decide)) (Or.inr (by decide)) (Or.inr (by decide)) (Or.inr (by decide)) (Or.inr (by decide)) (Or.inr (by decide)) (Or.inr (by decide)) (Or.inr (by decide))).trans pf1
  have pf2 := (yz53788.1 _ 2 (Or.inl (by rw [g0]; decide)) (Or.inr (by decide)) (Or.inr (by decide)) (Or.inr (by decide)) (Or.inr (by decide)) (Or.inr (by decide)) (Or.inr (by decide)) (Or.inr (by decide))).trans pf2
  have pf3 := (yz53788.1 _ 0 (Or.inr (by decide)) (Or.inr (by decide)) (Or.inr (by decide)) (Or.inr (by decide)) (Or.inr (by decide)) (Or.inr (by decide)) (Or.inr (by decide)) (Or.inr (by decide))).trans pf3
  have pf4 := (yz53788.1 _ 10 (Or.inr (by decide)) (Or.inr (by decide)) (Or.inr (by decide)) (Or.inr (by decide)) (Or.inr (by decide)) (Or.inr (by decide)) (Or.inr (by decide)) (Or.inr (by decide))).trans pf4
  have pf5 := (yz53788.1 _ 11 (Or.inr (by decide)) (Or.inr (by decide)) (Or.inr (by decide)) (Or.inr (by decide)) (Or.inr (by decide)) (Or.inr (by decide)) (Or.inr (by decide)) (Or.inr (by decide))).trans pf5
  have hv53768 := (yz53788.1 _ 8 (Or.inr (by decide)) (Or.inr (by decide)) (Or.inr (by decide)) (Or.inr (by decide)) (Or.inr (by decide)) (Or.inr (by decide)) (Or.inr (by decide)) (Or.inr (by decide))).trans hv53768
  have hfr : ∀ b j : Nat, (tag b ≠ 18 ∨ j ≠ 8) → (tag b ≠ 24 ∨ j ≠ 2) → (tag b ≠ 24 ∨ j ≠ 3) → (tag b ≠ 24 ∨ j ≠ 4) → (tag b ≠ 24 ∨ j ≠ 5) → (tag b ≠ 24 ∨ j ≠ 6) → (tag b ≠ 24 ∨ j ≠ 7) → (tag b ≠ 25 ∨ j ≠ 3) → (tag b ≠ 25 ∨ j ≠ 4) → (tag b ≠ 25 ∨ j ≠ 12) → fld F b j = fld Fo b j := fun b j n18_8 n24_2 n24_3 n24_4 n24_5 n24_6 n24_7 n25_3 n25_4 n25_12 => (yz53788.1 b j n24_2 n24_3 n24_4 n24_5 n24_6 n24_7 n25_3 n25_4).trans (hfr b j n18_8 n24_2 n24_3 n24_4 n24_5 n24_6 n24_7 n25_3 n25_4 n25_12)
  have hrel := nsr_of (fun j => yz53788.2 _ j (Or.inl gx4)) (fun j => yz53788.2 _ j (Or.inr gx5)) hrel
  refine t_cVv (n := 3) (C := RX1) (T := TX1) (N := 20) (As := [.int z53769, .int 4, .int z53788]) (rest := []) X hT (kt10_X1_setStonePart l G tag L F hT.2.2.2 x1 z53769 4 z53788 mx1 gx1) mx1 gx1 rfl rfl qw_365 qw_366 qw_367 qw_17 qw_368 ⟨rfl, by decide +kernel, by decide +kernel, by decide +kernel⟩ ⟨Nat.le_of_ble_eq_true rfl, Nat.le_of_ble_eq_true rfl⟩ hl rfl rfl (Nat.le_of_ble_eq_true rfl) dX3_readStone_124 ⟨Nat.le_of_ble_eq_true rfl, Nat.le_of_ble_eq_true rfl⟩ (fun F H locs hT hz53789 => ?_)
  have yz53789 := hz53789
  have pf0 := (yz53789.1 _ 0 ).trans pf0
  have pf1 := (yz53789.1 _ 1 ).trans pf1
  have pf2 := (yz53789.1 _ 2 ).trans pf2
  have pf3 := (yz53789.1 _ 0 ).trans pf3
  have pf4 := (yz53789.1 _ 10 ).trans pf4
  have pf5 := (yz53789.1 _ 11 ).trans pf5
  have hv53768 := (yz53789.1 _ 8 ).trans hv53768
  have hfr : ∀ b j : Nat, (tag b ≠ 18 ∨ j ≠ 8) → (tag b ≠ 24 ∨ j ≠ 2) → (tag b ≠ 24 ∨ j ≠ 3) → (tag b ≠ 24 ∨ j ≠ 4) → (tag b ≠ 24 ∨ j ≠ 5) → (tag b ≠ 24 ∨ j ≠ 6) → (tag b ≠ 24 ∨ j ≠ 7) → (tag b ≠ 25 ∨ j ≠ 3) → (tag b ≠ 25 ∨ j ≠ 4) → (tag b ≠ 25 ∨ j ≠ 12) → fld F b j = fld Fo b j := fun b j n18_8 n24_2 n24_3 n24_4 n24_5 n24_6 n24_7 n25_3 n25_4 n25_12 => (yz53789.1 b j ).trans (hfr b j n18_8 n24_2 n24_3 n24_4 n24_5 n24_6 n24_7 n25_3 n25_4 n25_12)
  have hrel := nsr_of (fun j => yz53789.2 _ j (Or.inl gx4)) (fun j => yz53789.2 _ j (Or.inr gx5)) hrel
  refine lv_aload_n hx hb dX3_readStone_127 rfl (lv_at hl 1 rfl) ?_
  refine t_get (C := RX3) (T := TX3) (N := 13) X hT m0 g0 rfl rfl 1 (by decide) qw_161 inlX3 rfl dX3_readStone_128 (fun v53790 hv53790 ov53790 => ?_)
  obtain rfl : v53790 = .ref x1 := hv53790.symm.trans pf1
  refine lv_dup hx hb dX3_readStone_131 rfl ?_
  refine t_get (C := RX1) (T := TX1) (N := 20) X hT mx1 gx1 rfl rfl 8 (by decide) qw_171 inlX1 rfl dX3_readStone_132 (fun v53791 hv53791 ov53791 => ?_)
  obtain rfl : v53791 = .int z53769 := hv53791.symm.trans hv53768
  refine lv_iconst (v := 1) hx hb dX3_readStone_135 (by decide) ?_
  refine lv_iadd hx hb dX3_readStone_136 ?_
  refine lv_topi (fun z53792 ez53792 => ?_)
  have rz53792 := rg_all z53792
  refine t_put (C := RX1) (T := TX1) (N := 20) (v := .int z53792) X hT mx1 gx1 rfl tyX1 tyX1_ok nmX1 rfl 8 (by decide) qw_171 inlX1 rfl (by first | rfl | decide) (by first | rfl | decide) rfl (⟨_, rfl, (show (-2147483648) ≤ (z53792 : Int32).toInt from (by omega)), (show (z53792 : Int32).toInt ≤ 2147483647 from (by omega))⟩) dX3_readStone_137 (fun F H locs hT v53793 h1v53793 h2v53793 => ?_)
  have pf0 := (h1v53793 _ _ (Or.inr (by decide))).trans pf0
  have pf1 := (h1v53793 _ _ (Or.inr (by decide))).trans pf1
  have pf2 := (h1v53793 _ _ (Or.inr (by decide))).trans pf2
  have pf3 := (h1v53793 _ _ (Or.inr (by decide))).trans pf3
  have pf4 := (h1v53793 _ _ (Or.inr (by decide))).trans pf4
  have pf5 := (h1v53793 _ _ (Or.inr (by decide))).trans pf5
  have hfr : ∀ b j : Nat, (tag b ≠ 18 ∨ j ≠ 8) → (tag b ≠ 24 ∨ j ≠ 2) → (tag b ≠ 24 ∨ j ≠ 3) → (tag b ≠ 24 ∨ j ≠ 4) → (tag b ≠ 24 ∨ j ≠ 5) → (tag b ≠ 24 ∨ j ≠ 6) → (tag b ≠ 24 ∨ j ≠ 7) → (tag b ≠ 25 ∨ j ≠ 3) → (tag b ≠ 25 ∨ j ≠ 4) → (tag b ≠ 25 ∨ j ≠ 12) → fld F b j = fld Fo b j := fun b j n18_8 n24_2 n24_3 n24_4 n24_5 n24_6 n24_7 n25_3 n25_4 n25_12 => (h1v53793 b j (fr_ne gx1 n18_8)).trans (hfr b j n18_8 n24_2 n24_3 n24_4 n24_5 n24_6 n24_7 n25_3 n25_4 n25_12)
  have hrel := nsr_of (fun j => h2v53793 _ j) (fun j => h2v53793 _ j) hrel
  exact t_vret hQ X hT ⟨hfr, hrel⟩ (Nat.le_of_ble_eq_true rfl) (Nat.le_of_ble_eq_true rfl) dX3_readStone_140
