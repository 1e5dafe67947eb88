set_option maxHeartbeats 4000000 in
set_option maxRecDepth 100000 in
theorem kt120_X3_whole (l : Launch) (G : KG) (tag : Nat → Nat) (L : List Nat) (Fo : Nat → va_E) (ho : okT G ttC tag L Fo) (p0 : Nat) (p1 : Int32) (p2 : Int32) (x0 : Nat) (x1 : Nat) (x2 : Nat) (x3 : Nat) (x4 : Nat) (x5 : Nat) (m0 : p0 ∈ L) (g0 : tag p0 = 25) (h1 : 0 ≤ p1.toInt ∧ p1.toInt ≤ 0) (h2 : 999 ≤ p2.toInt ∧ p2.toInt ≤ 999) (mx0 : x0 ∈ L) (gx0 : tag x0 = 24) (pf0 : fld Fo p0 0 = .ref x0) (mx1 : x1 ∈ L) (gx1 : tag x1 = 18) (pf1 : fld Fo p0 1 = .ref x1) (mx2 : x2 ∈ L) (gx2 : tag x2 = 19) (pf2 : fld Fo p0 2 = .ref x2) (mx3 : x3 ∈ L) (gx3 : tag x3 = 1) (pf3 : fld Fo x0 0 = .ref x3) (mx4 : x4 ∈ L) (gx4 : tag x4 = 14) (pf4 : fld Fo p0 10 = .ref x4) (mx5 : x5 ∈ L) (gx5 : tag x5 = 15) (pf5 : fld Fo p0 11 = .ref x5) : TMi l yX3_whole cX3_whole 4 (some .int) { frames := 3, cells := 0, slots := 0, locals := 62 } G ttC tag L Fo [.ref p0, .int p1, .int p2] (fun r F1 => (0 ≤ r.toInt ∧ r.toInt ≤ 999) ∧ ((∀ b j : Nat, (tag b ≠ 24 ∨ j ≠ 2) → (tag b ≠ 24 ∨ j ≠ 3) → (tag b ≠ 24 ∨ j ≠ 4) → (tag b ≠ 24 ∨ j ≠ 5) → (tag b ≠ 24 ∨ j ≠ 6) → (tag b ≠ 24 ∨ j ≠ 7) → (tag b ≠ 25 ∨ j ≠ 3) → (tag b ≠ 25 ∨ j ≠ 4) → fld F1 b j = fld Fo b j) ∧ EF tag F1 Fo)) := by
  refine t_bodyi (y := yX3_whole) (cd := cX3_whole) (mL := 4) (rt := (some .int)) (rm := { frames := 3, cells := 0, slots := 0, locals := 62 }) (av := [.ref p0, .int p1, .int p2]) (by decide) (Nat.le_of_ble_eq_true rfl) ho ?_
  intro p e s m args below meth c ls A Q hQ X hT hl
  have hx := X.1.1
  have hb := X.1.2.1
  have hl : lv_has ls 4 [(0, .ref p0), (1, .int p1), (2, .int p2)] := hl
  obtain ⟨F, hFo⟩ : ∃ F : Nat → va_E, F = Fo := ⟨_, rfl⟩
  rw [← hFo] at hT pf0 pf1 pf2 pf3 pf4 pf5
  have hfr : (∀ b j : Nat, (tag b ≠ 24 ∨ j ≠ 2) → (tag b ≠ 24 ∨ j ≠ 3) → (tag b ≠ 24 ∨ j ≠ 4) → (tag b ≠ 24 ∨ j ≠ 5) → (tag b ≠ 24 ∨ j ≠ 6) → (tag b ≠ 24 ∨ j ≠ 7) → (tag b ≠ 25 ∨ j ≠ 3) → (tag b ≠ 25 ∨ j ≠ 4) → fld F b j = fld Fo b j) ∧ EF tag F Fo := by
    rw [hFo]
    exact ⟨by intros; rfl, fun _ _ _ => rfl⟩
  refine lv_aload_n hx hb dX3_whole_0 rfl (lv_at hl 0 rfl) ?_
  refine t_get (C := RX3) (T := TX3) (N := 13) X hT m0 g0 rfl rfl 0 (by decide) qw_73 inlX3 rfl dX3_whole_1 (fun v43450 hv43450 ov43450 => ?_)
  obtain rfl : v43450 = .ref x0 := hv43450.symm.trans pf0
  refine t_get (C := RX8) (T := TX8) (N := 8) X hT mx0 gx0 rfl rfl 3 (by decide) qw_170 inlX8 rfl dX3_whole_4 (fun v43451 hv43451 ov43451 => ?_)
  obtain ⟨z43452, rfl, rz43452⟩ := okV_i ov43451
  refine lv_iconst (v := 2) hx hb dX3_whole_7 (by decide) ?_
  refine lv_icmp_eq (tgt := 26) hx hb dX3_whole_8 (by decide) (fun c43453 => ?_) (fun c43453 => ?_)
  · have w43454 := cv_eq (rfl : z43452.toInt = z43452.toInt) (by decide : (2 : Int32).toInt = 2) c43453
    refine lv_aload_n hx hb dX3_whole_26 rfl (lv_at hl 0 rfl) ?_
    refine t_get (C := RX3) (T := TX3) (N := 13) X hT m0 g0 rfl rfl 0 (by decide) qw_73 inlX3 rfl dX3_whole_27 (fun v43455 hv43455 ov43455 => ?_)
    obtain rfl : v43455 = .ref x0 := hv43455.symm.trans pf0
    refine t_get (C := RX8) (T := TX8) (N := 8) X hT mx0 gx0 rfl rfl 6 (by decide) qw_322 inlX8 rfl dX3_whole_30 (fun v43456 hv43456 ov43456 => ?_)
    obtain ⟨z43457, rfl, rz43457⟩ := okV_i ov43456
    refine lv_iload_n hx hb dX3_whole_33 rfl (lv_at hl 1 rfl) ?_
    refine lv_icmp_lt (tgt := 48) hx hb dX3_whole_34 (by decide) (fun c43458 => ?_) (fun c43458 => ?_)
    · have w43459 := cv_lt (rfl : z43457.toInt = z43457.toInt) (rfl : p1.toInt = p1.toInt) c43458
      refine lv_aload_n hx hb dX3_whole_48 rfl (lv_at hl 0 rfl) ?_
      refine lv_iconst (v := 4) hx hb dX3_whole_49 (by decide) ?_
      refine lv_aload_n hx hb dX3_whole_50 rfl (lv_at hl 0 rfl) ?_
      refine t_get (C := RX3) (T := TX3) (N := 13) X hT m0 g0 rfl rfl 0 (by decide) qw_73 inlX3 rfl dX3_whole_51 (fun v43460 hv43460 ov43460 => ?_)
      obtain rfl : v43460 = .ref x0 := hv43460.symm.trans pf0
      refine t_get (C := RX8) (T := TX8) (N := 8) X hT mx0 gx0 rfl rfl 4 (by decide) qw_227 inlX8 rfl dX3_whole_54 (fun v43461 hv43461 ov43461 => ?_)
      obtain ⟨z43462, rfl, rz43462⟩ := okV_i ov43461
      refine t_cVv (n := 2) (C := RX3) (T := TX3) (N := 13) (As := [.int 4, .int z43462]) (rest := []) X hT (kt111_X3_fail l G tag L F hT.2.2.2 p0 4 z43462 m0 g0 (by decide)) m0 g0 rfl rfl qw_287 qw_288 qw_289 qw_28 qw_290 ⟨rfl, by decide +kernel, by decide +kernel, by decide +kernel⟩ ⟨Nat.le_of_ble_eq_true rfl, Nat.le_of_ble_eq_true rfl⟩ hl rfl rfl (Nat.le_of_ble_eq_true rfl) dX3_whole_57 ⟨Nat.le_of_ble_eq_true rfl, Nat.le_of_ble_eq_true rfl⟩ (fun F H locs hT hz43463 => ?_)
      obtain ⟨yz43463, xz43463_0⟩ := hz43463
      have pf0 := (yz43463.1 _ 0 (Or.inr (by decide)) (Or.inr (by decide))).trans pf0
      have pf1 := (yz43463.1 _ 1 (Or.inr (by decide)) (Or.inr (by decide))).trans pf1
      have pf2 := (yz43463.1 _ 2 (Or.inr (by decide)) (Or.inr (by decide))).trans pf2
      have pf3 := (yz43463.1 _ 0 (Or.inr (by decide)) (Or.inr (by decide))).trans pf3
      have pf4 := (yz43463.1 _ 10 (Or.inr (by decide)) (Or.inr (by decide))).trans pf4
      have pf5 := (yz43463.1 _ 11 (Or.inr (by decide)) (Or.inr (by decide))).trans pf5
      have hv43451 := (yz43463.1 _ 3 (Or.inl (by rw [gx0]; decide)) (Or.inr (by decide))).trans hv43451
      have hv43456 := (yz43463.1 _ 6 (Or.inr (by decide)) (Or.inr (by decide))).trans hv43456
      have hv43461 := (yz43463.1 _ 4 (Or.inr (by decide)) (Or.inl (by rw [gx0]; decide))).trans hv43461
      have hfr : (∀ b j : Nat, (tag b ≠ 24 ∨ j ≠ 2) → (tag b ≠ 24 ∨ j ≠ 3) → (tag b ≠ 24 ∨ j ≠ 4) → (tag b ≠ 24 ∨ j ≠ 5) → (tag b ≠ 24 ∨ j ≠ 6) → (tag b ≠ 24 ∨ j ≠ 7) → (tag b ≠ 25 ∨ j ≠ 3) → (tag b ≠ 25 ∨ j ≠ 4) → fld F b j = fld Fo b j) ∧ EF tag F Fo := ⟨fun b j n24_2 n24_3 n24_4 n24_5 n24_6 n24_7 n25_3 n25_4 => (yz43463.1 b j n25_3 n25_4).trans (hfr.1 b j n24_2 n24_3 n24_4 n24_5 n24_6 n24_7 n25_3 n25_4), fun b j hb => (yz43463.2 b j hb).trans (hfr.2 b j hb)⟩
      obtain ⟨z43464, qz43464, rz43464⟩ := xz43463_0
      refine lv_aload_n hx hb dX3_whole_60 rfl (lv_at hl 0 rfl) ?_
      refine t_get (C := RX3) (T := TX3) (N := 13) X hT m0 g0 rfl rfl 3 (by decide) qw_163 inlX3 rfl dX3_whole_61 (fun v43465 hv43465 ov43465 => ?_)
      obtain rfl : v43465 = .int z43464 := hv43465.symm.trans qz43464
      refine lv_if_eq (tgt := 69) hx hb dX3_whole_64 (by decide) (fun c43466 => ?_) (fun c43466 => ?_)
      · have w43467 := cv_eq (rfl : z43464.toInt = z43464.toInt) (by decide : (0 : Int32).toInt = 0) c43466
        exfalso
        omega
      · have w43468 := cv_ne (rfl : z43464.toInt = z43464.toInt) (by decide : (0 : Int32).toInt = 0) c43466
        refine lv_iload_n hx hb dX3_whole_67 rfl (lv_at hl 1 rfl) ?_
        exact t_iret hQ X hT (⟨(by omega), hfr⟩) (Nat.le_of_ble_eq_true rfl) (Nat.le_of_ble_eq_true rfl) dX3_whole_68
    · have w43469 := cv_nlt (rfl : z43457.toInt = z43457.toInt) (rfl : p1.toInt = p1.toInt) c43458
      refine lv_aload_n hx hb dX3_whole_37 rfl (lv_at hl 0 rfl) ?_
      refine t_get (C := RX3) (T := TX3) (N := 13) X hT m0 g0 rfl rfl 0 (by decide) qw_73 inlX3 rfl dX3_whole_38 (fun v43470 hv43470 ov43470 => ?_)
      obtain rfl : v43470 = .ref x0 := hv43470.symm.trans pf0
      refine t_get (C := RX8) (T := TX8) (N := 8) X hT mx0 gx0 rfl rfl 6 (by decide) qw_322 inlX8 rfl dX3_whole_41 (fun v43471 hv43471 ov43471 => ?_)
      obtain rfl : v43471 = .int z43457 := hv43471.symm.trans hv43456
      refine lv_iload_n hx hb dX3_whole_44 rfl (lv_at hl 2 rfl) ?_
      refine lv_icmp_le (tgt := 60) hx hb dX3_whole_45 (by decide) (fun c43472 => ?_) (fun c43472 => ?_)
      · have w43473 := cv_le (rfl : z43457.toInt = z43457.toInt) (rfl : p2.toInt = p2.toInt) c43472
        refine lv_aload_n hx hb dX3_whole_60 rfl (lv_at hl 0 rfl) ?_
        refine t_get (C := RX3) (T := TX3) (N := 13) X hT m0 g0 rfl rfl 3 (by decide) qw_163 inlX3 rfl dX3_whole_61 (fun v43474 hv43474 ov43474 => ?_)
        obtain ⟨z43475, rfl, rz43475⟩ := okV_i ov43474
        refine lv_if_eq (tgt := 69) hx hb dX3_whole_64 (by decide) (fun c43476 => ?_) (fun c43476 => ?_)
        · have w43477 := cv_eq (rfl : z43475.toInt = z43475.toInt) (by decide : (0 : Int32).toInt = 0) c43476
          refine lv_aload_n hx hb dX3_whole_69 rfl (lv_at hl 0 rfl) ?_
          refine t_get (C := RX3) (T := TX3) (N := 13) X hT m0 g0 rfl rfl 0 (by decide) qw_73 inlX3 rfl dX3_whole_70 (fun v43478 hv43478 ov43478 => ?_)
          obtain rfl : v43478 = .ref x0 := hv43478.symm.trans pf0
          refine t_get (C := RX8) (T := TX8) (N := 8) X hT mx0 gx0 rfl rfl 6 (by decide) qw_322 inlX8 rfl dX3_whole_73 (fun v43479 hv43479 ov43479 => ?_)
          obtain rfl : v43479 = .int z43457 := hv43479.symm.trans hv43456
          refine lv_istore_n (lv' := [(3, .int z43457), (0, .ref p0), (1, .int p1), (2, .int p2)]) hx hb dX3_whole_76 rfl hl (by decide) rfl (fun ls hl => ?_)
          refine lv_aload_n hx hb dX3_whole_77 rfl (lv_at hl 1 rfl) ?_
          refine t_get (C := RX3) (T := TX3) (N := 13) X hT m0 g0 rfl rfl 0 (by decide) qw_73 inlX3 rfl dX3_whole_78 (fun v43480 hv43480 ov43480 => ?_)
          obtain rfl : v43480 = .ref x0 := hv43480.symm.trans pf0
          refine t_cVv (n := 0) (C := RX8) (T := TX8) (N := 8) (As := []) (rest := []) X hT (kt98_X8_advance l G tag L F hT.2.2.2 x0 x3 mx0 gx0 mx3 gx3 pf3) mx0 gx0 rfl rfl qw_305 qw_197 qw_198 qw_72 qw_199 ⟨rfl, by decide +kernel, by decide +kernel, by decide +kernel⟩ ⟨Nat.le_of_ble_eq_true rfl, Nat.le_of_ble_eq_true rfl⟩ hl rfl rfl (Nat.le_of_ble_eq_true rfl) dX3_whole_81 ⟨Nat.le_of_ble_eq_true rfl, Nat.le_of_ble_eq_true rfl⟩ (fun F H locs hT hz43481 => ?_)
          have yz43481 := hz43481
          have pf0 := (yz43481.1 _ 0 (Or.inr (by decide)) (Or.inr (by decide)) (Or.inr (by decide)) (Or.inr (by decide)) (Or.inr (by decide)) (Or.inr (by decide))).trans pf0
          have pf1 := (yz43481.1 _ 1 (Or.inr (by decide)) (Or.inr (by decide)) (Or.inr (by decide)) (Or.inr (by decide)) (Or.inr (by decide)) (Or.inr (by decide))).trans pf1
          have pf2 := (yz43481.1 _ 2 (Or.inl (by rw [g0]; decide)) (Or.inr (by decide)) (Or.inr (by decide)) (Or.inr (by decide)) (Or.inr (by decide)) (Or.inr (by decide))).trans pf2
          have pf3 := (yz43481.1 _ 0 (Or.inr (by decide)) (Or.inr (by decide)) (Or.inr (by decide)) (Or.inr (by decide)) (Or.inr (by decide)) (Or.inr (by decide))).trans pf3
          have pf4 := (yz43481.1 _ 10 (Or.inr (by decide)) (Or.inr (by decide)) (Or.inr (by decide)) (Or.inr (by decide)) (Or.inr (by decide)) (Or.inr (by decide))).trans pf4
          have pf5 := (yz43481.1 _ 11 (Or.inr (by decide)) (Or.inr (by decide)) (Or.inr (by decide)) (Or.inr (by decide)) (Or.inr (by decide)) (Or.inr (by decide))).trans pf5
          have hv43474 := (yz43481.1 _ 3 (Or.inr (by decide)) (Or.inl (by rw [g0]; decide)) (Or.inr (by decide)) (Or.inr (by decide)) (Or.inr (by decide)) (Or.inr (by decide))).trans hv43474
          have hfr : (∀ b j : Nat, (tag b ≠ 24 ∨ j ≠ 2) → (tag b ≠ 24 ∨ j ≠ 3) → (tag b ≠ 24 ∨ j ≠ 4) → (tag b ≠ 24 ∨ j ≠ 5) → (tag b ≠ 24 ∨ j ≠ 6) → (tag b ≠ 24 ∨ j ≠ 7) → (tag b ≠ 25 ∨ j ≠ 3) → (tag b ≠ 25 ∨ j ≠ 4) → fld F b j = fld Fo b j) ∧ EF tag F Fo := ⟨fun b j n24_2 n24_3 n24_4 n24_5 n24_6 n24_7 n25_3 n25_4 => (yz43481.1 b j n24_2 n24_3 n24_4 n24_5 n24_6 n24_7).trans (hfr.1 b j n24_2 n24_3 n24_4 n24_5 n24_6 n24_7 n25_3 n25_4), fun b j hb => (yz43481.2 b j hb).trans (hfr.2 b j hb)⟩
          refine lv_iload_n hx hb dX3_whole_84 rfl (lv_at hl 0 rfl) ?_
          exact t_iret hQ X hT (⟨(by omega), hfr⟩) (Nat.le_of_ble_eq_true rfl) (Nat.le_of_ble_eq_true rfl) dX3_whole_85
        · have w43482 := cv_ne (rfl : z43475.toInt = z43475.toInt) (by decide : (0 : Int32).toInt = 0) c43476
          refine lv_iload_n hx hb dX3_whole_67 rfl (lv_at hl 1 rfl) ?_
          exact t_iret hQ X hT (⟨(by omega), hfr⟩) (Nat.le_of_ble_eq_true rfl) (Nat.le_of_ble_eq_true rfl) dX3_whole_68
      · have w43483 := cv_nle (rfl : z43457.toInt = z43457.toInt) (rfl : p2.toInt = p2.toInt) c43472
        refine lv_aload_n hx hb dX3_whole_48 rfl (lv_at hl 0 rfl) ?_
        refine lv_iconst (v := 4) hx hb dX3_whole_49 (by decide) ?_
        refine lv_aload_n hx hb dX3_whole_50 rfl (lv_at hl 0 rfl) ?_
        refine t_get (C := RX3) (T := TX3) (N := 13) X hT m0 g0 rfl rfl 0 (by decide) qw_73 inlX3 rfl dX3_whole_51 (fun v43484 hv43484 ov43484 => ?_)
        obtain rfl : v43484 = .ref x0 := hv43484.symm.trans pf0
        refine t_get (C := RX8) (T := TX8) (N := 8) X hT mx0 gx0 rfl rfl 4 (by decide) qw_227 inlX8 rfl dX3_whole_54 (fun v43485 hv43485 ov43485 => ?_)
        obtain ⟨z43486, rfl, rz43486⟩ := okV_i ov43485
        refine t_cVv (n := 2) (C := RX3) (T := TX3) (N := 13) (As := [.int 4, .int z43486]) (rest := []) X hT (kt111_X3_fail l G tag L F hT.2.2.2 p0 4 z43486 m0 g0 (by decide)) m0 g0 rfl rfl qw_287 qw_288 qw_289 qw_28 qw_290 ⟨rfl, by decide +kernel, by decide +kernel, by decide +kernel⟩ ⟨Nat.le_of_ble_eq_true rfl, Nat.le_of_ble_eq_true rfl⟩ hl rfl rfl (Nat.le_of_ble_eq_true rfl) dX3_whole_57 ⟨Nat.le_of_ble_eq_true rfl, Nat.le_of_ble_eq_true rfl⟩ (fun F H locs hT hz43487 => ?_)
        obtain ⟨yz43487, xz43487_0⟩ := hz43487
        have pf0 := (yz43487.1 _ 0 (Or.inr (by decide)) (Or.inr (by decide))).trans pf0
        have pf1 := (yz43487.1 _ 1 (Or.inr (by decide)) (Or.inr (by decide))).trans pf1
        have pf2 := (yz43487.1 _ 2 (Or.inr (by decide)) (Or.inr (by decide))).trans pf2
        have pf3 := (yz43487.1 _ 0 (Or.inr (by decide)) (Or.inr (by decide))).trans pf3
        have pf4 := (yz43487.1 _ 10 (Or.inr (by decide)) (Or.inr (by decide))).trans pf4
        have pf5 := (yz43487.1 _ 11 (Or.inr (by decide)) (Or.inr (by decide))).trans pf5
        have hv43451 := (yz43487.1 _ 3 (Or.inl (by rw [gx0]; decide)) (Or.inr (by decide))).trans hv43451
        have hv43456 := (yz43487.1 _ 6 (Or.inr (by decide)) (Or.inr (by decide))).trans hv43456
        have hv43485 := (yz43487.1 _ 4 (Or.inr (by decide)) (Or.inl (by rw [gx0]; decide))).trans hv43485
        have hfr : (∀ b j : Nat, (tag b ≠ 24 ∨ j ≠ 2) → (tag b ≠ 24 ∨ j ≠ 3) → (tag b ≠ 24 ∨ j ≠ 4) → (tag b ≠ 24 ∨ j ≠ 5) → (tag b ≠ 24 ∨ j ≠ 6) → (tag b ≠ 24 ∨ j ≠ 7) → (tag b ≠ 25 ∨ j ≠ 3) → (tag b ≠ 25 ∨ j ≠ 4) → fld F b j = fld Fo b j) ∧ EF tag F Fo := ⟨fun b j n24_2 n24_3 n24_4 n24_5 n24_6 n24_7 n25_3 n25_4 => (yz43487.1 b j n25_3 n25_4).trans (hfr.1 b j n24_2 n24_3 n24_4 n24_5 n24_6 n24_7 n25_3 n25_4), fun b j hb => (yz43487.2 b j hb).trans (hfr.2 b j hb)⟩
        obtain ⟨z43488, qz43488, rz43488⟩ := xz43487_0
        refine lv_aload_n hx hb dX3_whole_60 rfl (lv_at hl 0 rfl) ?_
        refine t_get (C := RX3) (T := TX3) (N := 13) X hT m0 g0 rfl rfl 3 (by decide) qw_163 inlX3 rfl dX3_whole_61 (fun v43489 hv43489 ov43489 => ?_)
        obtain rfl : v43489 = .int z43488 := hv43489.symm.trans qz43488
        refine lv_if_eq (tgt := 69) hx hb dX3_whole_64 (by decide) (fun c43490 => ?_) (fun c43490 => ?_)
        · have w43491 := cv_eq (rfl : z43488.toInt = z43488.toInt) (by decide : (0 : Int32).toInt = 0) c43490
          exfalso
          omega
        · have w43492 := cv_ne (rfl : z43488.toInt = z43488.toInt) (by decide : (0 : Int32).toInt = 0) c43490
          refine lv_iload_n hx hb dX3_whole_67 rfl (lv_at hl 1 rfl) ?_
          exact t_iret hQ X hT (⟨(by omega), hfr⟩) (Nat.le_of_ble_eq_true rfl) (Nat.le_of_ble_eq_true rfl) dX3_whole_68
  · have w43493 := cv_ne (rfl : z43452.toInt = z43452.toInt) (by decide : (2 : Int32).toInt = 2) c43453
    refine lv_aload_n hx hb dX3_whole_11 rfl (lv_at hl 0 rfl) ?_
    refine lv_iconst (v := 1) hx hb dX3_whole_12 (by decide) ?_
    refine lv_aload_n hx hb dX3_whole_13 rfl (lv_at hl 0 rfl) ?_
    refine t_get (C := RX3) (T := TX3) (N := 13) X hT m0 g0 rfl rfl 0 (by decide) qw_73 inlX3 rfl dX3_whole_14 (fun v43494 hv43494 ov43494 => ?_)
    obtain rfl : v43494 = .ref x0 := hv43494.symm.trans pf0
    refine t_get (C := RX8) (T := TX8) (N := 8) X hT mx0 gx0 rfl rfl 4 (by decide) qw_227 inlX8 rfl dX3_whole_17 (fun v43495 hv43495 ov43495 => ?_)
    obtain ⟨z43496, rfl, rz43496⟩ := okV_i ov43495
    refine t_cVv (n := 2) (C := RX3) (T := TX3) (N := 13) (As := [.int 1, .int z43496]) (rest := []) X hT (kt111_X3_fail l G tag L F hT.2.2.2 p0 1 z43496 m0 g0 (by decide)) m0 g0 rfl rfl qw_287 qw_288 qw_289 qw_28 qw_290 ⟨rfl, by decide +kernel, by decide +kernel, by decide +kernel⟩ ⟨Nat.le_of_ble_eq_true rfl, Nat.le_of_ble_eq_true rfl⟩ hl rfl rfl (Nat.le_of_ble_eq_true rfl) dX3_whole_20 ⟨Nat.le_of_ble_eq_true rfl, Nat.le_of_ble_eq_true rfl⟩ (fun F H locs hT hz43497 => ?_)
    obtain ⟨yz43497, xz43497_0⟩ := hz43497
    have pf0 := (yz43497.1 _ 0 (Or.inr (by decide)) (Or.inr (by decide))).trans pf0
    have pf1 := (yz43497.1 _ 1 (Or.inr (by decide)) (Or.inr (by decide))).trans pf1
    have pf2 := (yz43497.1 _ 2 (Or.inr (by decide)) (Or.inr (by decide))).trans pf2
    have pf3 := (yz43497.1 _ 0 (Or.inr (by decide)) (Or.inr (by decide))).trans pf3
    have pf4 := (yz43497.1 _ 10 (Or.inr (by decide)) (Or.inr (by decide))).trans pf4
    have pf5 := (yz43497.1 _ 11 (Or.inr (by decide)) (Or.inr (by decide))).trans pf5
    have hv43451 := (yz43497.1 _ 3 (Or.inl (by rw [gx0]; decide)) (Or.inr (by decide))).trans hv43451
    have hv43495 := (yz43497.1 _ 4 (Or.inr (by decide)) (Or.inl (by rw [gx0]; decide))).trans hv43495
    have hfr : (∀ b j : Nat, (tag b ≠ 24 ∨ j ≠ 2) → (tag b ≠ 24 ∨ j ≠ 3) → (tag b ≠ 24 ∨ j ≠ 4) → (tag b ≠ 24 ∨ j ≠ 5) → (tag b ≠ 24 ∨ j ≠ 6) → (tag b ≠ 24 ∨ j ≠ 7) → (tag b ≠ 25 ∨ j ≠ 3) → (tag b ≠ 25 ∨ j ≠ 4) → fld F b j = fld Fo b j) ∧ EF tag F Fo := ⟨fun b j n24_2 n24_3 n24_4 n24_5 n24_6 n24_7 n25_3 n25_4 => (yz43497.1 b j n25_3 n25_4).trans (hfr.1 b j n24_2 n24_3 n24_4 n24_5 n24_6 n24_7 n25_3 n25_4), fun b j hb => (yz43497.2 b j hb).trans (hfr.2 b j hb)⟩
    obtain ⟨z43498, qz43498, rz43498⟩ := xz43497_0
    refine lv_goto (tgt := 60) hx hb dX3_whole_23 (by decide) ?_
    refine lv_aload_n hx hb dX3_whole_60 rfl (lv_at hl 0 rfl) ?_
    refine t_get (C := RX3) (T := TX3) (N := 13) X hT m0 g0 rfl rfl 3 (by decide) qw_163 inlX3 rfl dX3_whole_61 (fun v43499 hv43499 ov43499 => ?_)
    obtain rfl : v43499 = .int z43498 := hv43499.symm.trans qz43498
    refine lv_if_eq (tgt := 69) hx hb dX3_whole_64 (by decide) (fun c43500 => ?_) (fun c43500 => ?_)
    · have w43501 := cv_eq (rfl : z43498.toInt = z43498.toInt) (by decide : (0 : Int32).toInt = 0) c43500
      exfalso
      omega
    · have w43502 := cv_ne (rfl : z43498.toInt = z43498.toInt) (by decide : (0 : Int32).toInt = 0) c43500
      refine lv_iload_n hx hb dX3_whole_67 rfl (lv_at hl 1 rfl) ?_
      exact t_iret hQ X hT (⟨(by omega), hfr⟩) (Nat.le_of_ble_eq_true rfl) (Nat.le_of_ble_eq_true rfl) dX3_whole_68
set_option maxHeartbeats 4000000 in
set_option maxRecDepth 100000 in
theorem kt121_X3_readHouse (l : Launch) (G : KG) (tag : Nat → Nat) (L : List Nat) (Fo : Nat → va_E) (ho : okT G ttC tag L Fo) (p0 : Nat) (x0 : Nat) (x1 : Nat) (x2 : Nat) (x3 : Nat) (x4 : Nat) (x5 : Nat) (x6 : Int32) (m0 : p0 ∈ L) (g0 : tag p0 = 25) (mx0 : x0 ∈ L) (gx0 : tag x0 = 24) (pf0 : fld Fo p0 0 = .ref x0) (mx1 : x1 ∈ L) (gx1 : tag x1 = 18) (pf1 : fld Fo p0 1 = .ref x1) (mx2 : x2 ∈ L) (gx2 : tag x2 = 19) (pf2 : fld Fo p0 2 = .ref x2) (mx3 : x3 ∈ L) (gx3 : tag x3 = 1) (pf3 : fld Fo x0 0 = .ref x3) (mx4 : x4 ∈ L) (gx4 : tag x4 = 14) (pf4 : fld Fo p0 10 = .ref x4) (mx5 : x5 ∈ L) (gx5 : tag x5 = 15) (pf5 : fld Fo p0 11 = .ref x5) (hx6 : 0 ≤ x6.toInt ∧ x6.toInt ≤ 3) (pf6 : fld Fo x1 10 = .int x6) (hrel : NSR Fo x4 x5) : TMv l yX3_readHouse cX3_readHouse 7 { frames := 7, cells := 0, slots := 0, locals := 150 } G ttC tag L Fo [.ref p0] (fun F1 => (∀ b j : Nat, (tag b ≠ 18 ∨ j ≠ 10) → (tag b ≠ 24 ∨ j ≠ 2) → (tag b ≠ 24 ∨ j ≠ 3) → (tag b ≠ 24 ∨ j ≠ 4) → (tag b ≠ 24 ∨ j ≠ 5) → (tag b ≠ 24 ∨ j ≠ 6) → (tag b ≠ 24 ∨ j ≠ 7) → (tag b ≠ 25 ∨ j ≠ 3) → (tag b ≠ 25 ∨ j ≠ 4) → (tag b ≠ 25 ∨ j ≠ 12) → fld F1 b j = fld Fo b j) ∧ (NSR F1 x4 x5)) := by
  refine t_bodyv (y := yX3_readHouse) (cd := cX3_readHouse) (mL := 7) (rm := { frames := 7, cells := 0, slots := 0, locals := 150 }) (av := [.ref p0]) (by decide) (Nat.le_of_ble_eq_true rfl) ho ?_
  intro p e s m args below meth c ls A Q hQ X hT hl
  have hx := X.1.1
  have hb := X.1.2.1
  have hl : lv_has ls 7 [(0, .ref p0)] := hl
  obtain ⟨F, hFo⟩ : ∃ F : Nat → va_E, F = Fo := ⟨_, rfl⟩
  rw [← hFo] at hT pf0 pf1 pf2 pf3 pf4 pf5 pf6 hrel
  have hfr : ∀ b j : Nat, (tag b ≠ 18 ∨ j ≠ 10) → (tag b ≠ 24 ∨ j ≠ 2) → (tag b ≠ 24 ∨ j ≠ 3) → (tag b ≠ 24 ∨ j ≠ 4) → (tag b ≠ 24 ∨ j ≠ 5) → (tag b ≠ 24 ∨ j ≠ 6) → (tag b ≠ 24 ∨ j ≠ 7) → (tag b ≠ 25 ∨ j ≠ 3) → (tag b ≠ 25 ∨ j ≠ 4) → (tag b ≠ 25 ∨ j ≠ 12) → fld F b j = fld Fo b j := by
    rw [hFo]
    intros
    rfl
  refine lv_aload_n hx hb dX3_readHouse_0 rfl (lv_at hl 0 rfl) ?_
  refine t_get (C := RX3) (T := TX3) (N := 13) X hT m0 g0 rfl rfl 1 (by decide) qw_161 inlX3 rfl dX3_readHouse_1 (fun v44600 hv44600 ov44600 => ?_)
  obtain rfl : v44600 = .ref x1 := hv44600.symm.trans pf1
  refine t_get (C := RX1) (T := TX1) (N := 20) X hT mx1 gx1 rfl rfl 10 (by decide) qw_172 inlX1 rfl dX3_readHouse_4 (fun v44601 hv44601 ov44601 => ?_)
  obtain rfl : v44601 = .int x6 := hv44601.symm.trans pf6
  refine lv_istore_n (lv' := [(1, .int x6), (0, .ref p0)]) hx hb dX3_readHouse_7 rfl hl (by decide) rfl (fun ls hl => ?_)
  refine lv_aload_n hx hb dX3_readHouse_8 rfl (lv_at hl 1 rfl) ?_
  refine lv_iconst (v := 4) hx hb dX3_readHouse_9 (by decide) ?_
  refine lv_iload_n hx hb dX3_readHouse_10 rfl (lv_at hl 0 rfl) ?_
  refine t_cVv (n := 2) (C := RX3) (T := TX3) (N := 13) (As := [.int 4, .int x6]) (rest := []) X hT (kt114_X3_newName l G tag L F hT.2.2.2 p0 4 x6 x0 x1 x2 x3 x4 x5 m0 g0 (by decide) (by omega) mx0 gx0 pf0 mx1 gx1 pf1 mx2 gx2 pf2 mx3 gx3 pf3 mx4 gx4 pf4 mx5 gx5 pf5 hrel) m0 g0 rfl rfl qw_356 qw_357 qw_358 qw_28 qw_359 ⟨rfl, by decide +kernel, by decide +kernel, by decide +kernel⟩ ⟨Nat.le_of_ble_eq_true rfl, Nat.le_of_ble_eq_true rfl⟩ hl rfl rfl (Nat.le_of_ble_eq_true rfl) dX3_readHouse_11 ⟨Nat.le_of_ble_eq_true rfl, Nat.le_of_ble_eq_true rfl⟩ (fun F H locs hT hz44602 => ?_)
  obtain ⟨yz44602, hrel⟩ := hz44602
  have pf0 := (yz44602 _ 0 (Or.inr (by decide)) (Or.inr (by decide)) (Or.inr (by decide)) (Or.inr (by decide)) (Or.inr (by decide)) (Or.inr (by decide)) (Or.inr (by decide)) (Or.inr (by decide)) (Or.inr (by decide))).trans pf0
  have pf1 := (yz44602 _ 1 (Or.inr (by decide)) (Or.inr (by decide)) (Or.inr (by decide)) (Or.inr (by decide)) (Or.inr (by decide)) (Or.inr (by decide)) (Or.inr (by decide)) (Or.inr (by decide)) (Or.inr (by decide))).trans pf1
  have pf2 := (yz44602 _ 2 (Or.inl (by rw [g0]; decide)) (Or.inr (by decide)) (Or.inr (by decide)) (Or.inr (by decide)) (Or.inr (by decide)) (Or.inr (by decide)) (Or.inr (by decide)) (Or.inr (by decide)) (Or.inr (by decide))).trans pf2
  have pf3 := (yz44602 _ 0 (Or.inr (by decide)) (Or.inr (by decide)) (Or.inr (by decide)) (Or.inr (by decide)) (Or.inr (by decide)) (Or.inr (by decide)) (Or.inr (by decide)) (Or.inr (by decide)) (Or.inr (by decide))).trans pf3
  have pf4 := (yz44602 _ 10 (Or.inr (by decide)) (Or.inr (by decide)) (Or.inr (by decide)) (Or.inr (by decide)) (Or.inr (by decide)) (Or.inr (by decide)) (Or.inr (by decide)) (Or.inr (by decide)) (Or.inr (by decide))).trans pf4
  have pf5 := (yz44602 _ 11 (Or.inr (by decide)) (Or.inr (by decide)) (Or.inr (by decide)) (Or.inr (by decide)) (Or.inr (by decide)) (Or.inr (by decide)) (Or.inr (by decide)) (Or.inr (by decide)) (Or.inr (by decide))).trans pf5
  have pf6 := (yz44602 _ 10 (Or.inr (by decide)) (Or.inr (by decide)) (Or.inr (by decide)) (Or.inr (by decide)) (Or.inr (by decide)) (Or.inr (by decide)) (Or.inr (by decide)) (Or.inr (by decide)) (Or.inr (by decide))).trans pf6
  have hfr : ∀ b j : Nat, (tag b ≠ 18 ∨ j ≠ 10) → (tag b ≠ 24 ∨ j ≠ 2) → (tag b ≠ 24 ∨ j ≠ 3) → (tag b ≠ 24 ∨ j ≠ 4) → (tag b ≠ 24 ∨ j ≠ 5) → (tag b ≠ 24 ∨ j ≠ 6) → (tag b ≠ 24 ∨ j ≠ 7) → (tag b ≠ 25 ∨ j ≠ 3) → (tag b ≠ 25 ∨ j ≠ 4) → (tag b ≠ 25 ∨ j ≠ 12) → fld F b j = fld Fo b j := fun b j n18_10 n24_2 n24_3 n24_4 n24_5 n24_6 n24_7 n25_3 n25_4 n25_12 => (yz44602 b j n24_2 n24_3 n24_4 n24_5 n24_6 n24_7 n25_3 n25_4 n25_12).trans (hfr b j n18_10 n24_2 n24_3 n24_4 n24_5 n24_6 n24_7 n25_3 n25_4 n25_12)
  refine lv_aload_n hx hb dX3_readHouse_14 rfl (lv_at hl 1 rfl) ?_
  refine m_ldcKw X 30 rfl dX3_readHouse_15 ?_
  refine t_cVv (n := 1) (C := RX3) (T := TX3) (N := 13) (As := [.ref (G.2 (100 + 30))]) (rest := []) X hT (kt115_X3_word l G tag L F hT.2.2.2 p0 30 x0 x1 x2 x3 x4 x5 m0 g0 (by decide) mx0 gx0 pf0 mx1 gx1 pf1 mx2 gx2 pf2 mx3 gx3 pf3 mx4 gx4 pf4 mx5 gx5 pf5) m0 g0 rfl rfl qw_314 qw_315 qw_316 qw_28 qw_317 ⟨rfl, by decide +kernel, by decide +kernel, by decide +kernel⟩ ⟨Nat.le_of_ble_eq_true rfl, Nat.le_of_ble_eq_true rfl⟩ hl rfl rfl (Nat.le_of_ble_eq_true rfl) dX3_readHouse_18 ⟨Nat.le_of_ble_eq_true rfl, Nat.le_of_ble_eq_true rfl⟩ (fun F H locs hT hz44603 => ?_)
  have yz44603 := hz44603
  have pf0 := (yz44603.1 _ 0 (Or.inr (by decide)) (Or.inr (by decide)) (Or.inr (by decide)) (Or.inr (by decide)) (Or.inr (by decide)) (Or.inr (by decide)) (Or.inr (by decide)) (Or.inr (by decide))).trans pf0
  have pf1 := (yz44603.1 _ 1 (Or.inr (by decide)) (Or.inr (by decide)) (Or.inr (by decide)) (Or.inr (by decide)) (Or.inr (by decide)) (Or.inr (by decide)) (Or.inr (by decide)) (Or.inr (by decide))).trans pf1
  have pf2 := (yz44603.1 _ 2 (Or.inl (by rw [g0]; decide)) (Or.inr (by decide)) (Or.inr (by decide)) (Or.inr (by decide)) (Or.inr (by decide)) (Or.inr (by decide)) (Or.inr (by decide)) (Or.inr (by decide))).trans pf2
  have pf3 := (yz44603.1 _ 0 (Or.inr (by decide)) (Or.inr (by decide)) (Or.inr (by decide)) (Or.inr (by decide)) (Or.inr (by decide)) (Or.inr (by decide)) (Or.inr (by decide)) (Or.inr (by decide))).trans pf3
  have pf4 := (yz44603.1 _ 10 (Or.inr (by decide)) (Or.inr (by decide)) (Or.inr (by decide)) (Or.inr (by decide)) (Or.inr (by decide)) (Or.inr (by decide)) (Or.inr (by decide)) (Or.inr (by decide))).trans pf4
  have pf5 := (yz44603.1 _ 11 (Or.inr (by decide)) (Or.inr (by decide)) (Or.inr (by decide)) (Or.inr (by decide)) (Or.inr (by decide)) (Or.inr (by decide)) (Or.inr (by decide)) (Or.inr (by decide))).trans pf5
  have pf6 := (yz44603.1 _ 10 (Or.inr (by decide)) (Or.inr (by decide)) (Or.inr (by decide)) (Or.inr (by decide)) (Or.inr (by decide)) (Or.inr (by decide)) (Or.inr (by decide)) (Or.inr (by decide))).trans pf6
  have hfr : ∀ b j : Nat, (tag b ≠ 18 ∨ j ≠ 10) → (tag b ≠ 24 ∨ j ≠ 2) → (tag b ≠ 24 ∨ j ≠ 3) → (tag b ≠ 24 ∨ j ≠ 4) → (tag b ≠ 24 ∨ j ≠ 5) → (tag b ≠ 24 ∨ j ≠ 6) → (tag b ≠ 24 ∨ j ≠ 7) → (tag b ≠ 25 ∨ j ≠ 3) → (tag b ≠ 25 ∨ j ≠ 4) → (tag b ≠ 25 ∨ j ≠ 12) → fld F b j = fld Fo b j := fun b j n18_10 n24_2 n24_3 n24_4 n24_5 n24_6 n24_7 n25_3 n25_4 n25_12 => (yz44603.1 b j n24_2 n24_3 n24_4 n24_5 n24_6 n24_7 n25_3 n25_4).trans (hfr b j n18_10 n24_2 n24_3 n24_4 n24_5 n24_6 n24_7 n25_3 n25_4 n25_12)
  have hrel := nsr_of (fun j => yz44603.2 _ j (Or.inl gx4)) (fun j => yz44603.2 _ j (Or.inr gx5)) hrel
  refine lv_aload_n hx hb dX3_readHouse_21 rfl (lv_at hl 1 rfl) ?_
  refine lv_iconst (v := 0) hx hb dX3_readHouse_22 (by decide) ?_
  refine lv_aload_n hx hb dX3_readHouse_23 rfl (lv_at hl 1 rfl) ?_
  refine t_get (C := RX3) (T := TX3) (N := 13) X hT m0 g0 rfl rfl 1 (by decide) qw_161 inlX3 rfl dX3_readHouse_24 (fun v44604 hv44604 ov44604 => ?_)
  obtain rfl : v44604 = .ref x1 := hv44604.symm.trans pf1
  refine t_get (C := RX1) (T := TX1) (N := 20) X hT mx1 gx1 rfl rfl 0 (by decide) qw_310 inlX1 rfl dX3_readHouse_27 (fun v44605 hv44605 ov44605 => ?_)
  obtain ⟨z44606, rfl, rz44606⟩ := okV_i ov44605
  refine lv_iconst (v := 1) hx hb dX3_readHouse_30 (by decide) ?_
  refine lv_isub hx hb dX3_readHouse_31 ?_
  refine lv_topi (fun z44607 ez44607 => ?_)
  have hz44607 : z44607.toInt = z44606.toInt - 1 := ar_sub ez44607 (rfl : z44606.toInt = z44606.toInt) (by decide : (1 : Int32).toInt = 1) (by omega) (by omega)
  have rz44607 : (-1) ≤ z44607.toInt ∧ z44607.toInt ≤ 11 := by omega
  refine t_cVi (n := 2) (C := RX3) (T := TX3) (N := 13) (As := [.int 0, .int z44607]) (rest := []) X hT (kt116_X3_whole l G tag L F hT.2.2.2 p0 0 z44607 x0 x1 x2 x3 x4 x5 m0 g0 (by decide) (by omega) mx0 gx0 pf0 mx1 gx1 pf1 mx2 gx2 pf2 mx3 gx3 pf3 mx4 gx4 pf4 mx5 gx5 pf5) m0 g0 rfl rfl qw_318 qw_319 qw_320 qw_28 qw_321 ⟨rfl, by decide +kernel, by decide +kernel, by decide +kernel⟩ ⟨Nat.le_of_ble_eq_true rfl, Nat.le_of_ble_eq_true rfl⟩ hl rfl rfl (Nat.le_of_ble_eq_true rfl) dX3_readHouse_32 ⟨Nat.le_of_ble_eq_true rfl, Nat.le_of_ble_eq_true rfl⟩ (fun z44608 F H locs hT hz44608 => ?_)
  obtain ⟨hz44608, yz44608⟩ := hz44608
  have pf0 := (yz44608.1 _ 0 (Or.inr (by decide)) (Or.inr (by decide)) (Or.inr (by decide)) (Or.inr (by decide)) (Or.inr (by decide)) (Or.inr (by decide)) (Or.inr (by decide)) (Or.inr (by decide))).trans pf0
  have pf1 := (yz44608.1 _ 1 (Or.inr (by decide)) (Or.inr (by decide)) (Or.inr (by decide)) (Or.inr (by decide)) (Or.inr (by decide)) (Or.inr (by decide)) (Or.inr (by decide)) (Or.inr (by decide))).trans pf1
  have pf2 := (yz44608.1 _ 2 (Or.inl (by rw [g0]; decide)) (Or.inr (by decide)) (Or.inr (by decide)) (Or.inr (by decide)) (Or.inr (by decide)) (Or.inr (by decide)) (Or.inr (by decide)) (Or.inr (by decide))).trans pf2
  have pf3 := (yz44608.1 _ 0 (Or.inr (by decide)) (Or.inr (by decide)) (Or.inr (by decide)) (Or.inr (by decide)) (Or.inr (by decide)) (Or.inr (by decide)) (Or.inr (by decide)) (Or.inr (by decide))).trans pf3
  have pf4 := (yz44608.1 _ 10 (Or.inr (by decide)) (Or.inr (by decide)) (Or.inr (by decide)) (Or.inr (by decide)) (Or.inr (by decide)) (Or.inr (by decide)) (Or.inr (by decide)) (Or.inr (by decide))).trans pf4
  have pf5 := (yz44608.1 _ 11 (Or.inr (by decide)) (Or.inr (by decide)) (Or.inr (by decide)) (Or.inr (by decide)) (Or.inr (by decide)) (Or.inr (by decide)) (Or.inr (by decide)) (Or.inr (by decide))).trans pf5
  have pf6 := (yz44608.1 _ 10 (Or.inr (by decide)) (Or.inr (by decide)) (Or.inr (by decide)) (Or.inr (by decide)) (Or.inr (by decide)) (Or.inr (by decide)) (Or.inr (by decide)) (Or.inr (by decide))).trans pf6
  have hv44605 := (yz44608.1 _ 0 (Or.inr (by decide)) (Or.inr (by decide)) (Or.inr (by decide)) (Or.inr (by decide)) (Or.inr (by decide)) (Or.inr (by decide)) (Or.inr (by decide)) (Or.inr (by decide))).trans hv44605
  have hfr : ∀ b j : Nat, (tag b ≠ 18 ∨ j ≠ 10) → (tag b ≠ 24 ∨ j ≠ 2) → (tag b ≠ 24 ∨ j ≠ 3) → (tag b ≠ 24 ∨ j ≠ 4) → (tag b ≠ 24 ∨ j ≠ 5) → (tag b ≠ 24 ∨ j ≠ 6) → (tag b ≠ 24 ∨ j ≠ 7) → (tag b ≠ 25 ∨ j ≠ 3) → (tag b ≠ 25 ∨ j ≠ 4) → (tag b ≠ 25 ∨ j ≠ 12) → fld F b j = fld Fo b j := fun b j n18_10 n24_2 n24_3 n24_4 n24_5 n24_6 n24_7 n25_3 n25_4 n25_12 => (yz44608.1 b j n24_2 n24_3 n24_4 n24_5 n24_6 n24_7 n25_3 n25_4).trans (hfr b j n18_10 n24_2 n24_3 n24_4 n24_5 n24_6 n24_7 n25_3 n25_4 n25_12)
  have hrel := nsr_of (fun j => yz44608.2 _ j (Or.inl gx4)) (fun j => yz44608.2 _ j (Or.inr gx5)) hrel
  refine lv_istore_n (lv' := [(2, .int z44608), (1, .int x6), (0, .ref p0)]) hx hb dX3_readHouse_35 rfl hl (by decide) rfl (fun ls hl => ?_)
  refine lv_aload_n hx hb dX3_readHouse_36 rfl (lv_at hl 2 rfl) ?_
  refine lv_bipush (v := 44) hx hb dX3_readHouse_37 (by decide) ?_
  refine t_cVv (n := 1) (C := RX3) (T := TX3) (N := 13) (As := [.int 44]) (rest := []) X hT (kt117_X3_sign l G tag L F hT.2.2.2 p0 44 x0 x1 x2 x3 x4 x5 m0 g0 mx0 gx0 pf0 mx1 gx1 pf1 mx2 gx2 pf2 mx3 gx3 pf3 mx4 gx4 pf4 mx5 gx5 pf5) m0 g0 rfl rfl qw_340 qw_341 qw_342 qw_28 qw_343 ⟨rfl, by decide +kernel, by decide +kernel, by decide +kernel⟩ ⟨Nat.le_of_ble_eq_true rfl, Nat.le_of_ble_eq_true rfl⟩ hl rfl rfl (Nat.le_of_ble_eq_true rfl) dX3_readHouse_39 ⟨Nat.le_of_ble_eq_true rfl, Nat.le_of_ble_eq_true rfl⟩ (fun F H locs hT hz44609 => ?_)
  have yz44609 := hz44609
  have pf0 := (yz44609.1 _ 0 (Or.inr (by decide)) (Or.inr (by decide)) (Or.inr (by decide)) (Or.inr (by decide)) (Or.inr (by decide)) (Or.inr (by decide)) (Or.inr (by decide)) (Or.inr (by decide))).trans pf0
  have pf1 := (yz44609.1 _ 1 (Or.inr (by decide)) (Or.inr (by decide)) (Or.inr (by decide)) (Or.inr (by decide)) (Or.inr (by decide)) (Or.inr (by decide)) (Or.inr (by decide)) (Or.inr (by decide))).trans pf1
  have pf2 := (yz44609.1 _ 2 (Or.inl (by rw [g0]; decide)) (Or.inr (by decide)) (Or.inr (by decide)) (Or.inr (by decide)) (Or.inr (by decide)) (Or.inr (by decide)) (Or.inr (by decide)) (Or.inr (by decide))).trans pf2
  have pf3 := (yz44609.1 _ 0 (Or.inr (by decide)) (Or.inr (by decide)) (Or.inr (by decide)) (Or.inr (by decide)) (Or.inr (by decide)) (Or.inr (by decide)) (Or.inr (by decide)) (Or.inr (by decide))).trans pf3
  have pf4 := (yz44609.1 _ 10 (Or.inr (by decide)) (Or.inr (by decide)) (Or.inr (by decide)) (Or.inr (by decide)) (Or.inr (by decide)) (Or.inr (by decide)) (Or.inr (by decide)) (Or.inr (by decide))).trans pf4
  have pf5 := (yz44609.1 _ 11 (Or.inr (by decide)) (Or.inr (by decide)) (Or.inr (by decide)) (Or.inr (by decide)) (Or.inr (by decide)) (Or.inr (by decide)) (Or.inr (by decide)) (Or.inr (by decide))).trans pf5
  have pf6 := (yz44609.1 _ 10 (Or.inr (by decide)) (Or.inr (by decide)) (Or.inr (by decide)) (Or.inr (by decide)) (Or.inr (by decide)) (Or.inr (by decide)) (Or.inr (by decide)) (Or.inr (by decide))).trans pf6
  have hv44605 := (yz44609.1 _ 0 (Or.inr (by decide)) (Or.inr (by decide)) (Or.inr (by decide)) (Or.inr (by decide)) (Or.inr (by decide)) (Or.inr (by decide)) (Or.inr (by decide)) (Or.inr (by decide))).trans hv44605
  have hfr : ∀ b j : Nat, (tag b ≠ 18 ∨ j ≠ 10) → (tag b ≠ 24 ∨ j ≠ 2) → (tag b ≠ 24 ∨ j ≠ 3) → (tag b ≠ 24 ∨ j ≠ 4) → (tag b ≠ 24 ∨ j ≠ 5) → (tag b ≠ 24 ∨ j ≠ 6) → (tag b ≠ 24 ∨ j ≠ 7) → (tag b ≠ 25 ∨ j ≠ 3) → (tag b ≠ 25 ∨ j ≠ 4) → (tag b ≠ 25 ∨ j ≠ 12) → fld F b j = fld Fo b j := fun b j n18_10 n24_2 n24_3 n24_4 n24_5 n24_6 n24_7 n25_3 n25_4 n25_12 => (yz44609.1 b j n24_2 n24_3 n24_4 n24_5 n24_6 n24_7 n25_3 n25_4).trans (hfr b j n18_10 n24_2 n24_3 n24_4 n24_5 n24_6 n24_7 n25_3 n25_4 n25_12)
  have hrel := nsr_of (fun j => yz44609.2 _ j (Or.inl gx4)) (fun j => yz44609.2 _ j (Or.inr gx5)) hrel
  refine lv_aload_n hx hb dX3_readHouse_42 rfl (lv_at hl 2 rfl) ?_
  refine lv_iconst (v := 0) hx hb dX3_readHouse_43 (by decide) ?_
  refine lv_aload_n hx hb dX3_readHouse_44 rfl (lv_at hl 2 rfl) ?_
  refine t_get (C := RX3) (T := TX3) (N := 13) X hT m0 g0 rfl rfl 1 (by decide) qw_161 inlX3 rfl dX3_readHouse_45 (fun v44610 hv44610 ov44610 => ?_)
  obtain rfl : v44610 = .ref x1 := hv44610.symm.trans pf1
  refine t_get (C := RX1) (T := TX1) (N := 20) X hT mx1 gx1 rfl rfl 1 (by decide) qw_311 inlX1 rfl dX3_readHouse_48 (fun v44611 hv44611 ov44611 => ?_)
  obtain ⟨z44612, rfl, rz44612⟩ := okV_i ov44611
  refine lv_iconst (v := 1) hx hb dX3_readHouse_51 (by decide) ?_
  refine lv_isub hx hb dX3_readHouse_52 ?_
  refine lv_topi (fun z44613 ez44613 => ?_)
  have hz44613 : z44613.toInt = z44612.toInt - 1 := ar_sub ez44613 (rfl : z44612.toInt = z44612.toInt) (by decide : (1 : Int32).toInt = 1) (by omega) (by omega)
  have rz44613 : (-1) ≤ z44613.toInt ∧ z44613.toInt ≤ 11 := by omega
  refine t_cVi (n := 2) (C := RX3) (T := TX3) (N := 13) (As := [.int 0, .int z44613]) (rest := []) X hT (kt116_X3_whole l G tag L F hT.2.2.2 p0 0 z44613 x0 x1 x2 x3 x4 x5 m0 g0 (by decide) (by omega) mx0 gx0 pf0 mx1 gx1 pf1 mx2 gx2 pf2 mx3 gx3 pf3 mx4 gx4 pf4 mx5 gx5 pf5) m0 g0 rfl rfl qw_318 qw_319 qw_320 qw_28 qw_321 ⟨rfl, by decide +kernel, by decide +kernel, by decide +kernel⟩ ⟨Nat.le_of_ble_eq_true rfl, Nat.le_of_ble_eq_true rfl⟩ hl rfl rfl (Nat.le_of_ble_eq_true rfl) dX3_readHouse_53 ⟨Nat.le_of_ble_eq_true rfl, Nat.le_of_ble_eq_true rfl⟩ (fun z44614 F H locs hT hz44614 => ?_)
  obtain ⟨hz44614, yz44614⟩ := hz44614
  have pf0 := (yz44614.1 _ 0 (Or.inr (by decide)) (Or.inr (by decide)) (Or.inr (by decide)) (Or.inr (by decide)) (Or.inr (by decide)) (Or.inr (by decide)) (Or.inr (by decide)) (Or.inr (by decide))).trans pf0
  have pf1 := (yz44614.1 _ 1 (Or.inr (by decide)) (Or.inr (by decide)) (Or.inr (by decide)) (Or.inr (by decide)) (Or.inr (by decide)) (Or.inr (by decide)) (Or.inr (by decide)) (Or.inr (by decide))).trans pf1
  have pf2 := (yz44614.1 _ 2 (Or.inl (by rw [g0]; decide)) (Or.inr (by decide)) (Or.inr (by decide)) (Or.inr (by decide)) (Or.inr (by decide)) (Or.inr (by decide)) (Or.inr (by decide)) (Or.inr (by decide))).trans pf2
  have pf3 := (yz44614.1 _ 0 (Or.inr (by decide)) (Or.inr (by decide)) (Or.inr (by decide)) (Or.inr (by decide)) (Or.inr (by decide)) (Or.inr (by decide)) (Or.inr (by decide)) (Or.inr (by decide))).trans pf3
  have pf4 := (yz44614.1 _ 10 (Or.inr (by decide)) (Or.inr (by decide)) (Or.inr (by decide)) (Or.inr (by decide)) (Or.inr (by decide)) (Or.inr (by decide)) (Or.inr (by decide)) (Or.inr (by decide))).trans pf4
  have pf5 := (yz44614.1 _ 11 (Or.inr (by decide)) (Or.inr (by decide)) (Or.inr (by decide)) (Or.inr (by decide)) (Or.inr (by decide)) (Or.inr (by decide)) (Or.inr (by decide)) (Or.inr (by decide))).trans pf5
  have pf6 := (yz44614.1 _ 10 (Or.inr (by decide)) (Or.inr (by decide)) (Or.inr (by decide)) (Or.inr (by decide)) (Or.inr (by decide)) (Or.inr (by decide)) (Or.inr (by decide)) (Or.inr (by decide))).trans pf6
  have hv44605 := (yz44614.1 _ 0 (Or.inr (by decide)) (Or.inr (by decide)) (Or.inr (by decide)) (Or.inr (by decide)) (Or.inr (by decide)) (Or.inr (by decide)) (Or.inr (by decide)) (Or.inr (by decide))).trans hv44605
  have hv44611 := (yz44614.1 _ 1 (Or.inr (by decide)) (Or.inr (by decide)) (Or.inr (by decide)) (Or.inr (by decide)) (Or.inr (by decide)) (Or.inr (by decide)) (Or.inr (by decide)) (Or.inr (by decide))).trans hv44611
  have hfr : ∀ b j : Nat, (tag b ≠ 18 ∨ j ≠ 10) → (tag b ≠ 24 ∨ j ≠ 2) → (tag b ≠ 24 ∨ j ≠ 3) → (tag b ≠ 24 ∨ j ≠ 4) → (tag b ≠ 24 ∨ j ≠ 5) → (tag b ≠ 24 ∨ j ≠ 6) → (tag b ≠ 24 ∨ j ≠ 7) → (tag b ≠ 25 ∨ j ≠ 3) → (tag b ≠ 25 ∨ j ≠ 4) → (tag b ≠ 25 ∨ j ≠ 12) → fld F b j = fld Fo b j := fun b j n18_10 n24_2 n24_3 n24_4 n24_5 n24_6 n24_7 n25_3 n25_4 n25_12 => (yz44614.1 b j n24_2 n24_3 n24_4 n24_5 n24_6 n24_7 n25_3 n25_4).trans (hfr b j n18_10 n24_2 n24_3 n24_4 n24_5 n24_6 n24_7 n25_3 n25_4 n25_12)
  have hrel := nsr_of (fun j => yz44614.2 _ j (Or.inl gx4)) (fun j => yz44614.2 _ j (Or.inr gx5)) hrel
  refine lv_istore_n (lv' := [(3, .int z44614), (2, .int z44608), (1, .int x6), (0, .ref p0)]) hx hb dX3_readHouse_56 rfl hl (by decide) rfl (fun ls hl => ?_)
  refine lv_aload_n hx hb dX3_readHouse_57 rfl (lv_at hl 3 rfl) ?_
  refine t_get (C := RX3) (T := TX3) (N := 13) X hT m0 g0 rfl rfl 1 (by decide) qw_161 inlX3 rfl dX3_readHouse_58 (fun v44615 hv44615 ov44615 => ?_)
  obtain rfl : v44615 = .ref x1 := hv44615.symm.trans pf1
  refine lv_aload_n hx hb dX3_readHouse_61 rfl (lv_at hl 3 rfl) ?_
  refine t_get (C := RX3) (T := TX3) (N := 13) X hT m0 g0 rfl rfl 2 (by decide) qw_162 inlX3 rfl dX3_readHouse_62 (fun v44616 hv44616 ov44616 => ?_)
  obtain rfl : v44616 = .ref x2 := hv44616.symm.trans pf2
  refine lv_iload_n hx hb dX3_readHouse_65 rfl (lv_at hl 1 rfl) ?_
  refine lv_iload_n hx hb dX3_readHouse_66 rfl (lv_at hl 0 rfl) ?_
  refine t_cSi (n := 4) (As := [.ref x1, .ref x2, .int z44608, .int z44614]) (rest := []) X hT (kt29_X6_isFree l G tag L F hT.2.2.2 x1 x2 z44608 z44614 mx1 gx1 mx2 gx2) qw_378 qw_379 qw_380 qw_381 ⟨by decide +kernel, by decide +kernel, by decide +kernel⟩ ⟨Nat.le_of_ble_eq_true rfl, Nat.le_of_ble_eq_true rfl⟩ hl rfl rfl (Nat.le_of_ble_eq_true rfl) dX3_readHouse_67 ⟨Nat.le_of_ble_eq_true rfl, Nat.le_of_ble_eq_true rfl⟩ (fun z44617 F9 H locs hT hz44617 => ?_)
  obtain ⟨fz44617, hz44617⟩ := hz44617
  rw [fz44617] at hT
  refine lv_if_ne (tgt := 86) hx hb dX3_readHouse_70 (by decide) (fun c44618 => ?_) (fun c44618 => ?_)
  · have w44619 := cv_ne (rfl : z44617.toInt = z44617.toInt) (by decide : (0 : Int32).toInt = 0) c44618
    refine lv_aload_n hx hb dX3_readHouse_86 rfl (lv_at hl 3 rfl) ?_
    refine m_ldcKw X 31 rfl dX3_readHouse_87 ?_
    refine t_cVv (n := 1) (C := RX3) (T := TX3) (N := 13) (As := [.ref (G.2 (100 + 31))]) (rest := []) X hT (kt115_X3_word l G tag L F hT.2.2.2 p0 31 x0 x1 x2 x3 x4 x5 m0 g0 (by decide) mx0 gx0 pf0 mx1 gx1 pf1 mx2 gx2 pf2 mx3 gx3 pf3 mx4 gx4 pf4 mx5 gx5 pf5) m0 g0 rfl rfl qw_314 qw_315 qw_316 qw_28 qw_317 ⟨rfl, by decide +kernel, by decide +kernel, by decide +kernel⟩ ⟨Nat.le_of_ble_eq_true rfl, Nat.le_of_ble_eq_true rfl⟩ hl rfl rfl (Nat.le_of_ble_eq_true rfl) dX3_readHouse_90 ⟨Nat.le_of_ble_eq_true rfl, Nat.le_of_ble_eq_true rfl⟩ (fun F H locs hT hz44620 => ?_)
    have yz44620 := hz44620
    have pf0 := (yz44620.1 _ 0 (Or.inr (by decide)) (Or.inr (by decide)) (Or.inr (by decide)) (Or.inr (by decide)) (Or.inr (by decide)) (Or.inr (by decide)) (Or.inr (by decide)) (Or.inr (by decide))).trans pf0
    have pf1 := (yz44620.1 _ 1 (Or.inr (by decide)) (Or.inr (by decide)) (Or.inr (by decide)) (Or.inr (by decide)) (Or.inr (by decide)) (Or.inr (by decide)) (Or.inr (by decide)) (Or.inr (by decide))).trans pf1
    have pf2 := (yz44620.1 _ 2 (Or.inl (by rw [g0]; decide)) (Or.inr (by decide)) (Or.inr (by decide)) (Or.inr (by decide)) (Or.inr (by decide)) (Or.inr (by decide)) (Or.inr (by decide)) (Or.inr (by decide))).trans pf2
    have pf3 := (yz44620.1 _ 0 (Or.inr (by decide)) (Or.inr (by decide)) (Or.inr (by decide)) (Or.inr (by decide)) (Or.inr (by decide)) (Or.inr (by decide)) (Or.inr (by decide)) (Or.inr (by decide))).trans pf3
    have pf4 := (yz44620.1 _ 10 (Or.inr (by decide)) (Or.inr (by decide)) (Or.inr (by decide)) (Or.inr (by decide)) (Or.inr (by decide)) (Or.inr (by decide)) (Or.inr (by decide)) (Or.inr (by decide))).trans pf4
    have pf5 := (yz44620.1 _ 11 (Or.inr (by decide)) (Or.inr (by decide)) (Or.inr (by decide)) (Or.inr (by decide)) (Or.inr (by decide)) (Or.inr (by decide)) (Or.inr (by decide)) (Or.inr (by decide))).trans pf5
    have pf6 := (yz44620.1 _ 10 (Or.inr (by decide)) (Or.inr (by decide)) (Or.inr (by decide)) (Or.inr (by decide)) (Or.inr (by decide)) (Or.inr (by decide)) (Or.inr (by decide)) (Or.inr (by decide))).trans pf6
    have hv44605 := (yz44620.1 _ 0 (Or.inr (by decide)) (Or.inr (by decide)) (Or.inr (by decide)) (Or.inr (by decide)) (Or.inr (by decide)) (Or.inr (by decide)) (Or.inr (by decide)) (Or.inr (by decide))).trans hv44605
    have hv44611 := (yz44620.1 _ 1 (Or.inr (by decide)) (Or.inr (by decide)) (Or.inr (by decide)) (Or.inr (by decide)) (Or.inr (by decide)) (Or.inr (by decide)) (Or.inr (by decide)) (Or.inr (by decide))).trans hv44611
    have hfr : ∀ b j : Nat, (tag b ≠ 18 ∨ j ≠ 10) → (tag b ≠ 24 ∨ j ≠ 2) → (tag b ≠ 24 ∨ j ≠ 3) → (tag b ≠ 24 ∨ j ≠ 4) → (tag b ≠ 24 ∨ j ≠ 5) → (tag b ≠ 24 ∨ j ≠ 6) → (tag b ≠ 24 ∨ j ≠ 7) → (tag b ≠ 25 ∨ j ≠ 3) → (tag b ≠ 25 ∨ j ≠ 4) → (tag b ≠ 25 ∨ j ≠ 12) → fld F b j = fld Fo b j := fun b j n18_10 n24_2 n24_3 n24_4 n24_5 n24_6 n24_7 n25_3 n25_4 n25_12 => (yz44620.1 b j n24_2 n24_3 n24_4 n24_5 n24_6 n24_7 n25_3 n25_4).trans (hfr b j n18_10 n24_2 n24_3 n24_4 n24_5 n24_6 n24_7 n25_3 n25_4 n25_12)
    have hrel := nsr_of (fun j => yz44620.2 _ j (Or.inl gx4)) (fun j => yz44620.2 _ j (Or.inr gx5)) hrel
    refine lv_aload_n hx hb dX3_readHouse_93 rfl (lv_at hl 3 rfl) ?_
    refine lv_iconst (v := 3) hx hb dX3_readHouse_94 (by decide) ?_
    refine t_cVi (n := 1) (C := RX3) (T := TX3) (N := 13) (As := [.int 3]) (rest := []) X hT (kt118_X3_name l G tag L F hT.2.2.2 p0 3 x0 x1 x2 x3 x4 x5 m0 g0 (by decide) mx0 gx0 pf0 mx1 gx1 pf1 mx2 gx2 pf2 mx3 gx3 pf3 mx4 gx4 pf4 mx5 gx5 pf5 hrel) m0 g0 rfl rfl qw_393 qw_394 qw_395 qw_28 qw_396 ⟨rfl, by decide +kernel, by decide +kernel, by decide +kernel⟩ ⟨Nat.le_of_ble_eq_true rfl, Nat.le_of_ble_eq_true rfl⟩ hl rfl rfl (Nat.le_of_ble_eq_true rfl) dX3_readHouse_95 ⟨Nat.le_of_ble_eq_true rfl, Nat.le_of_ble_eq_true rfl⟩ (fun z44621 F H locs hT hz44621 => ?_)
    obtain ⟨hz44621, yz44621, hrel⟩ := hz44621
    have pf0 := (yz44621.1 _ 0 (Or.inr (by decide)) (Or.inr (by decide)) (Or.inr (by decide)) (Or.inr (by decide)) (Or.inr (by decide)) (Or.inr (by decide)) (Or.inr (by decide)) (Or.inr (by decide))).trans pf0
    have pf1 := (yz44621.1 _ 1 (Or.inr (by decide)) (Or.inr (by decide)) (Or.inr (by decide)) (Or.inr (by decide)) (Or.inr (by decide)) (Or.inr (by decide)) (Or.inr (by decide)) (Or.inr (by decide))).trans pf1
    have pf2 := (yz44621.1 _ 2 (Or.inl (by rw [g0]; decide)) (Or.inr (by decide)) (Or.inr (by decide)) (Or.inr (by decide)) (Or.inr (by decide)) (Or.inr (by decide)) (Or.inr (by decide)) (Or.inr (by decide))).trans pf2
    have pf3 := (yz44621.1 _ 0 (Or.inr (by decide)) (Or.inr (by decide)) (Or.inr (by decide)) (Or.inr (by decide)) (Or.inr (by decide)) (Or.inr (by decide)) (Or.inr (by decide)) (Or.inr (by decide))).trans pf3
    have pf4 := (yz44621.1 _ 10 (Or.inr (by decide)) (Or.inr (by decide)) (Or.inr (by decide)) (Or.inr (by decide)) (Or.inr (by decide)) (Or.inr (by decide)) (Or.inr (by decide)) (Or.inr (by decide))).trans pf4
    have pf5 := (yz44621.1 _ 11 (Or.inr (by decide)) (Or.inr (by decide)) (Or.inr (by decide)) (Or.inr (by decide)) (Or.inr (by decide)) (Or.inr (by decide)) (Or.inr (by decide)) (Or.inr (by decide))).trans pf5
    have pf6 := (yz44621.1 _ 10 (Or.inr (by decide)) (Or.inr (by decide)) (Or.inr (by decide)) (Or.inr (by decide)) (Or.inr (by decide)) (Or.inr (by decide)) (Or.inr (by decide)) (Or.inr (by decide))).trans pf6
    have hv44605 := (yz44621.1 _ 0 (Or.inr (by decide)) (Or.inr (by decide)) (Or.inr (by decide)) (Or.inr (by decide)) (Or.inr (by decide)) (Or.inr (by decide)) (Or.inr (by decide)) (Or.inr (by decide))).trans hv44605
    have hv44611 := (yz44621.1 _ 1 (Or.inr (by decide)) (Or.inr (by decide)) (Or.inr (by decide)) (Or.inr (by decide)) (Or.inr (by decide)) (Or.inr (by decide)) (Or.inr (by decide)) (Or.inr (by decide))).trans hv44611
    have hfr : ∀ b j : Nat, (tag b ≠ 18 ∨ j ≠ 10) → (tag b ≠ 24 ∨ j ≠ 2) → (tag b ≠ 24 ∨ j ≠ 3) → (tag b ≠ 24 ∨ j ≠ 4) → (tag b ≠ 24 ∨ j ≠ 5) → (tag b ≠ 24 ∨ j ≠ 6) → (tag b ≠ 24 ∨ j ≠ 7) → (tag b ≠ 25 ∨ j ≠ 3) → (tag b ≠ 25 ∨ j ≠ 4) → (tag b ≠ 25 ∨ j ≠ 12) → fld F b j = fld Fo b j := fun b j n18_10 n24_2 n24_3 n24_4 n24_5 n24_6 n24_7 n25_3 n25_4 n25_12 => (yz44621.1 b j n24_2 n24_3 n24_4 n24_5 n24_6 n24_7 n25_3 n25_4).trans (hfr b j n18_10 n24_2 n24_3 n24_4 n24_5 n24_6 n24_7 n25_3 n25_4 n25_12)
    refine lv_istore (lv' := [(4, .int z44621), (3, .int z44614), (2, .int z44608), (1, .int x6), (0, .ref p0)]) hx hb dX3_readHouse_98 hl (by decide) rfl (fun ls hl => ?_)
    refine lv_aload_n hx hb dX3_readHouse_100 rfl (lv_at hl 4 rfl) ?_
    refine m_ldcKw X 32 rfl dX3_readHouse_101 ?_
    refine t_cVv (n := 1) (C := RX3) (T := TX3) (N := 13) (As := [.ref (G.2 (100 + 32))]) (rest := []) X hT (kt115_X3_word l G tag L F hT.2.2.2 p0 32 x0 x1 x2 x3 x4 x5 m0 g0 (by decide) mx0 gx0 pf0 mx1 gx1 pf1 mx2 gx2 pf2 mx3 gx3 pf3 mx4 gx4 pf4 mx5 gx5 pf5) m0 g0 rfl rfl qw_314 qw_315 qw_316 qw_28 qw_317 ⟨rfl, by decide +kernel, by decide +kernel, by decide +kernel⟩ ⟨Nat.le_of_ble_eq_true rfl, Nat.le_of_ble_eq_true rfl⟩ hl rfl rfl (Nat.le_of_ble_eq_true rfl) dX3_readHouse_104 ⟨Nat.le_of_ble_eq_true rfl, Nat.le_of_ble_eq_true rfl⟩ (fun F H locs hT hz44622 => ?_)
    have yz44622 := hz44622
    have pf0 := (yz44622.1 _ 0 (Or.inr (by decide)) (Or.inr (by decide)) (Or.inr (by decide)) (Or.inr (by decide)) (Or.inr (by decide)) (Or.inr (by decide)) (Or.inr (by decide)) (Or.inr (by decide))).trans pf0
    have pf1 := (yz44622.1 _ 1 (Or.inr (by decide)) (Or.inr (by decide)) (Or.inr (by decide)) (Or.inr (by decide)) (Or.inr (by decide)) (Or.inr (by decide)) (Or.inr (by decide)) (Or.inr (by decide))).trans pf1
    have pf2 := (yz44622.1 _ 2 (Or.inl (by rw [g0]; decide)) (Or.inr (by decide)) (Or.inr (by decide)) (Or.inr (by decide)) (Or.inr (by decide)) (Or.inr (by decide)) (Or.inr (by decide)) (Or.inr (by decide))).trans pf2
    have pf3 := (yz44622.1 _ 0 (Or.inr (by decide)) (Or.inr (by decide)) (Or.inr (by decide)) (Or.inr (by decide)) (Or.inr (by decide)) (Or.inr (by decide)) (Or.inr (by decide)) (Or.inr (by decide))).trans pf3
    have pf4 := (yz44622.1 _ 10 (Or.inr (by decide)) (Or.inr (by decide)) (Or.inr (by decide)) (Or.inr (by decide)) (Or.inr (by decide)) (Or.inr (by decide)) (Or.inr (by decide)) (Or.inr (by decide))).trans pf4
    have pf5 := (yz44622.1 _ 11 (Or.inr (by decide)) (Or.inr (by decide)) (Or.inr (by decide)) (Or.inr (by decide)) (Or.inr (by decide)) (Or.inr (by decide)) (Or.inr (by decide)) (Or.inr (by decide))).trans pf5
    have pf6 := (yz44622.1 _ 10 (Or.inr (by decide)) (Or.inr (by decide)) (Or.inr (by decide)) (Or.inr (by decide)) (Or.inr (by decide)) (Or.inr (by decide)) (Or.inr (by decide)) (Or.inr (by decide))).trans pf6
    have hv44605 := (yz44622.1 _ 0 (Or.inr (by decide)) (Or.inr (by decide)) (Or.inr (by decide)) (Or.inr (by decide)) (Or.inr (by decide)) (Or.inr (by decide)) (Or.inr (by decide)) (Or.inr (by decide))).trans hv44605
    have hv44611 := (yz44622.1 _ 1 (Or.inr (by decide)) (Or.inr (by decide)) (Or.inr (by decide)) (Or.inr (by decide)) (Or.inr (by decide)) (Or.inr (by decide)) (Or.inr (by decide)) (Or.inr (by decide))).trans hv44611
    have hfr : ∀ b j : Nat, (tag b ≠ 18 ∨ j ≠ 10) → (tag b ≠ 24 ∨ j ≠ 2) → (tag b ≠ 24 ∨ j ≠ 3) → (tag b ≠ 24 ∨ j ≠ 4) → (tag b ≠ 24 ∨ j ≠ 5) → (tag b ≠ 24 ∨ j ≠ 6) → (tag b ≠ 24 ∨ j ≠ 7) → (tag b ≠ 25 ∨ j ≠ 3) → (tag b ≠ 25 ∨ j ≠ 4) → (tag b ≠ 25 ∨ j ≠ 12) → fld F b j = fld Fo b j := fun b j n18_10 n24_2 n24_3 n24_4 n24_5 n24_6 n24_7 n25_3 n25_4 n25_12 => (yz44622.1 b j n24_2 n24_3 n24_4 n24_5 n24_6 n24_7 n25_3 n25_4).trans (hfr b j n18_10 n24_2 n24_3 n24_4 n24_5 n24_6 n24_7 n25_3 n25_4 n25_12)
    have hrel := nsr_of (fun j => yz44622.2 _ j (Or.inl gx4)) (fun j => yz44622.2 _ j (Or.inr gx5)) hrel
    refine lv_aload_n hx hb dX3_readHouse_107 rfl (lv_at hl 4 rfl) ?_
    refine lv_iconst (v := 0) hx hb dX3_readHouse_108 (by decide) ?_
    refine lv_bipush (v := 99) hx hb dX3_readHouse_109 (by decide) ?_
    refine t_cVi (n := 2) (C := RX3) (T := TX3) (N := 13) (As := [.int 0, .int 99]) (rest := []) X hT (kt119_X3_whole l G tag L F hT.2.2.2 p0 0 99 x0 x1 x2 x3 x4 x5 m0 g0 (by decide) (by decide) mx0 gx0 pf0 mx1 gx1 pf1 mx2 gx2 pf2 mx3 gx3 pf3 mx4 gx4 pf4 mx5 gx5 pf5) m0 g0 rfl rfl qw_318 qw_319 qw_320 qw_28 qw_321 ⟨rfl, by decide +kernel, by decide +kernel, by decide +kernel⟩ ⟨Nat.le_of_ble_eq_true rfl, Nat.le_of_ble_eq_true rfl⟩ hl rfl rfl (Nat.le_of_ble_eq_true rfl) dX3_readHouse_111 ⟨Nat.le_of_ble_eq_true rfl, Nat.le_of_ble_eq_true rfl⟩ (fun z44623 F H locs hT hz44623 => ?_)
    obtain ⟨hz44623, yz44623⟩ := hz44623
    have pf0 := (yz44623.1 _ 0 (Or.inr (by decide)) (Or.inr (by decide)) (Or.inr (by decide)) (Or.inr (by decide)) (Or.inr (by decide)) (Or.inr (by decide)) (Or.inr (by decide)) (Or.inr (by decide))).trans pf0
    have pf1 := (yz44623.1 _ 1 (Or.inr (by decide)) (Or.inr (by decide)) (Or.inr (by decide)) (Or.inr (by decide)) (Or.inr (by decide)) (Or.inr (by decide)) (Or.inr (by decide)) (Or.inr (by decide))).trans pf1
    have pf2 := (yz44623.1 _ 2 (Or.inl (by rw [g0]; decide)) (Or.inr (by decide)) (Or.inr (by decide)) (Or.inr (by decide)) (Or.inr (by decide)) (Or.inr (by decide)) (Or.inr (by decide)) (Or.inr (by decide))).trans pf2
    have pf3 := (yz44623.1 _ 0 (Or.inr (by decide)) (Or.inr (by decide)) (Or.inr (by decide)) (Or.inr (by decide)) (Or.inr (by decide)) (Or.inr (by decide)) (Or.inr (by decide)) (Or.inr (by decide))).trans pf3
    have pf4 := (yz44623.1 _ 10 (Or.inr (by decide)) (Or.inr (by decide)) (Or.inr (by decide)) (Or.inr (by decide)) (Or.inr (by decide)) (Or.inr (by decide)) (Or.inr (by decide)) (Or.inr (by decide))).trans pf4
    have pf5 := (yz44623.1 _ 11 (Or.inr (by decide)) (Or.inr (by decide)) (Or.inr (by decide)) (Or.inr (by decide)) (Or.inr (by decide)) (Or.inr (by decide)) (Or.inr (by decide)) (Or.inr (by decide))).trans pf5
    have pf6 := (yz44623.1 _ 10 (Or.inr (by decide)) (Or.inr (by decide)) (Or.inr (by decide)) (Or.inr (by decide)) (Or.inr (by decide)) (Or.inr (by decide)) (Or.inr (by decide)) (Or.inr (by decide))).trans pf6
    have hv44605 := (yz44623.1 _ 0 (Or.inr (by decide)) (Or.inr (by decide)) (Or.inr (by decide)) (Or.inr (by decide)) (Or.inr (by decide)) (Or.inr (by decide)) (Or.inr (by decide)) (Or.inr (by decide))).trans hv44605
    have hv44611 := (yz44623.1 _ 1 (Or.inr (by decide)) (Or.inr (by decide)) (Or.inr (by decide)) (Or.inr (by decide)) (Or.inr (by decide)) (Or.inr (by decide)) (Or.inr (by decide)) (Or.inr (by decide))).trans hv44611
    have hfr : ∀ b j : Nat, (tag b ≠ 18 ∨ j ≠ 10) → (tag b ≠ 24 ∨ j ≠ 2) → (tag b ≠ 24 ∨ j ≠ 3) → (tag b ≠ 24 ∨ j ≠ 4) → (tag b ≠ 24 ∨ j ≠ 5) → (tag b ≠ 24 ∨ j ≠ 6) → (tag b ≠ 24 ∨ j ≠ 7) → (tag b ≠ 25 ∨ j ≠ 3) → (tag b ≠ 25 ∨ j ≠ 4) → (tag b ≠ 25 ∨ j ≠ 12) → fld F b j = fld Fo b j := fun b j n18_10 n24_2 n24_3 n24_4 n24_5 n24_6 n24_7 n25_3 n25_4 n25_12 => (yz44623.1 b j n24_2 n24_3 n24_4 n24_5 n24_6 n24_7 n25_3 n25_4).trans (hfr b j n18_10 n24_2 n24_3 n24_4 n24_5 n24_6 n24_7 n25_3 n25_4 n25_12)
    have hrel := nsr_of (fun j => yz44623.2 _ j (Or.inl gx4)) (fun j => yz44623.2 _ j (Or.inr gx5)) hrel
    refine lv_istore (lv' := [(5, .int z44623), (4, .int z44621), (3, .int z44614), (2, .int z44608), (1, .int x6), (0, .ref p0)]) hx hb dX3_readHouse_114 hl (by decide) rfl (fun ls hl => ?_)
    refine lv_aload_n hx hb dX3_readHouse_116 rfl (lv_at hl 5 rfl) ?_
    refine m_ldcKw X 33 rfl dX3_readHouse_117 ?_
    refine t_cVv (n := 1) (C := RX3) (T := TX3) (N := 13) (As := [.ref (G.2 (100 + 33))]) (rest := []) X hT (kt115_X3_word l G tag L F hT.2.2.2 p0 33 x0 x1 x2 x3 x4 x5 m0 g0 (by decide) mx0 gx0 pf0 mx1 gx1 pf1 mx2 gx2 pf2 mx3 gx3 pf3 mx4 gx4 pf4 mx5 gx5 pf5) m0 g0 rfl rfl qw_314 qw_315 qw_316 qw_28 qw_317 ⟨rfl, by decide +kernel, by decide +kernel, by decide +kernel⟩ ⟨Nat.le_of_ble_eq_true rfl, Nat.le_of_ble_eq_true rfl⟩ hl rfl rfl (Nat.le_of_ble_eq_true rfl) dX3_readHouse_120 ⟨Nat.le_of_ble_eq_true rfl, Nat.le_of_ble_eq_true rfl⟩ (fun F H locs hT hz44624 => ?_)
    have yz44624 := hz44624
    have pf0 := (yz44624.1 _ 0 (Or.inr (by decide)) (Or.inr (by decide)) (Or.inr (by decide)) (Or.inr (by decide)) (Or.inr (by decide)) (Or.inr (by decide)) (Or.inr (by decide)) (Or.inr (by decide))).trans pf0
    have pf1 := (yz44624.1 _ 1 (Or.inr (by decide)) (Or.inr (by decide)) (Or.inr (by decide)) (Or.inr (by decide)) (Or.inr (by decide)) (Or.inr (by decide)) (Or.inr (by decide)) (Or.inr (by decide))).trans pf1
    have pf2 := (yz44624.1 _ 2 (Or.inl (by rw [g0]; decide)) (Or.inr (by decide)) (Or.inr (by decide)) (Or.inr (by decide)) (Or.inr (by decide)) (Or.inr (by decide)) (Or.inr (by decide)) (Or.inr (by decide))).trans pf2
    have pf3 := (yz44624.1 _ 0 (Or.inr (by decide)) (Or.inr (by decide)) (Or.inr (by decide)) (Or.inr (by decide)) (Or.inr (by decide)) (Or.inr (by decide)) (Or.inr (by decide)) (Or.inr (by decide))).trans pf3
    have pf4 := (yz44624.1 _ 10 (Or.inr (by decide)) (Or.inr (by decide)) (Or.inr (by decide)) (Or.inr (by decide)) (Or.inr (by decide)) (Or.inr (by decide)) (Or.inr (by decide)) (Or.inr (by decide))).trans pf4
    have pf5 := (yz44624.1 _ 11 (Or.inr (by decide)) (Or.inr (by decide)) (Or.inr (by decide)) (Or.inr (by decide)) (Or.inr (by decide)) (Or.inr (by decide)) (Or.inr (by decide)) (Or.inr (by decide))).trans pf5
    have pf6 := (yz44624.1 _ 10 (Or.inr (by decide)) (Or.inr (by decide)) (Or.inr (by decide)) (Or.inr (by decide)) (Or.inr (by decide)) (Or.inr (by decide)) (Or.inr (by decide)) (Or.inr (by decide))).trans pf6
    have hv44605 := (yz44624.1 _ 0 (Or.inr (by decide)) (Or.inr (by decide)) (Or.inr (by decide)) (Or.inr (by decide)) (Or.inr (by decide)) (Or.inr (by decide)) (Or.inr (by decide)) (Or.inr (by decide))).trans hv44605
    have hv44611 := (yz44624.1 _ 1 (Or.inr (by decide)) (Or.inr (by decide)) (Or.inr (by decide)) (Or.inr (by decide)) (Or.inr (by decide)) (Or.inr (by decide)) (Or.inr (by decide)) (Or.inr (by decide))).trans hv44611
    have hfr : ∀ b j : Nat, (tag b ≠ 18 ∨ j ≠ 10) → (tag b ≠ 24 ∨ j ≠ 2) → (tag b ≠ 24 ∨ j ≠ 3) → (tag b ≠ 24 ∨ j ≠ 4) → (tag b ≠ 24 ∨ j ≠ 5) → (tag b ≠ 24 ∨ j ≠ 6) → (tag b ≠ 24 ∨ j ≠ 7) → (tag b ≠ 25 ∨ j ≠ 3) → (tag b ≠ 25 ∨ j ≠ 4) → (tag b ≠ 25 ∨ j ≠ 12) → fld F b j = fld Fo b j := fun b j n18_10 n24_2 n24_3 n24_4 n24_5 n24_6 n24_7 n25_3 n25_4 n25_12 => (yz44624.1 b j n24_2 n24_3 n24_4 n24_5 n24_6 n24_7 n25_3 n25_4).trans (hfr b j n18_10 n24_2 n24_3 n24_4 n24_5 n24_6 n24_7 n25_3 n25_4 n25_12)
    have hrel := nsr_of (fun j => yz44624.2 _ j (Or.inl gx4)) (fun j => yz44624.2 _ j (Or.inr gx5)) hrel
    refine lv_aload_n hx hb dX3_readHouse_123 rfl (lv_at hl 5 rfl) ?_
    refine lv_iconst (v := 0) hx hb dX3_readHouse_124 (by decide) ?_
    refine lv_sipush (v := 999) hx hb dX3_readHouse_125 (by decide) ?_
    refine t_cVi (n := 2) (C := RX3) (T := TX3) (N := 13) (As := [.int 0, .int 999]) (rest := []) X hT (kt120_X3_whole l G tag L F hT.2.2.2 p0 0 999 x0 x1 x2 x3 x4 x5 m0 g0 (by decide) (by decide) mx0 gx0 pf0 mx1 gx1 pf1 mx2 gx2 pf2 mx3 gx3 pf3 mx4 gx4 pf4 mx5 gx5 pf5) m0 g0 rfl rfl qw_318 qw_319 qw_320 qw_28 qw_321 ⟨rfl, by decide +kernel, by decide +kernel, by decide +kernel⟩ ⟨Nat.le_of_ble_eq_true rfl, Nat.le_of_ble_eq_true rfl⟩ hl rfl rfl (Nat.le_of_ble_eq_true rfl) dX3_readHouse_128 ⟨Nat.le_of_ble_eq_true rfl, Nat.le_of_ble_eq_true rfl⟩ (fun z44625 F H locs hT hz44625 => ?_)
    obtain ⟨hz44625, yz44625⟩ := hz44625
    have pf0 := (yz44625.1 _ 0 (Or.inr (by decide)) (Or.inr (by decide)) (Or.inr (by decide)) (Or.inr (by decide)) (Or.inr (by decide)) (Or.inr (by decide)) (Or.inr (by decide)) (Or.inr (by decide))).trans pf0
    have pf1 := (yz44625.1 _ 1 (Or.inr (by decide)) (Or.inr (by decide)) (Or.inr (by decide)) (Or.inr (by decide)) (Or.inr (by decide)) (Or.inr (by decide)) (Or.inr (by decide)) (Or.inr (by decide))).trans pf1
    have pf2 := (yz44625.1 _ 2 (Or.inl (by rw [g0]; decide)) (Or.inr (by decide)) (Or.inr (by decide)) (Or.inr (by decide)) (Or.inr (by decide)) (Or.inr (by decide)) (Or.inr (by decide)) (Or.inr (by decide))).trans pf2
    have pf3 := (yz44625.1 _ 0 (Or.inr (by decide)) (Or.inr (by decide)) (Or.inr (by decide)) (Or.inr (by decide)) (Or.inr (by decide)) (Or.inr (by decide)) (Or.inr (by decide)) (Or.inr (by decide))).trans pf3
    have pf4 := (yz44625.1 _ 10 (Or.inr (by decide)) (Or.inr (by decide)) (Or.inr (by decide)) (Or.inr (by decide)) (Or.inr (by decide)) (Or.inr (by decide)) (Or.inr (by decide)) (Or.inr (by decide))).trans pf4
    have pf5 := (yz44625.1 _ 11 (Or.inr (by decide)) (Or.inr (by decide)) (Or.inr (by decide)) (Or.inr (by decide)) (Or.inr (by decide)) (Or.inr (by decide)) (Or.inr (by decide)) (Or.inr (by decide))).trans pf5
    have pf6 := (yz44625.1 _ 10 (Or.inr (by decide)) (Or.inr (by decide)) (Or.inr (by decide)) (Or.inr (by decide)) (Or.inr (by decide)) (Or.inr (by decide)) (Or.inr (by decide)) (Or.inr (by decide))).trans pf6
    have hv44605 := (yz44625.1 _ 0 (Or.inr (by decide)) (Or.inr (by decide)) (Or.inr (by decide)) (Or.inr (by decide)) (Or.inr (by decide)) (Or.inr (by decide)) (Or.inr (by decide)) (Or.inr (by decide))).trans hv44605
    have hv44611 := (yz44625.1 _ 1 (Or.inr (by decide)) (Or.inr (by decide)) (Or.inr (by decide)) (Or.inr (by decide)) (Or.inr (by decide)) (Or.inr (by decide)) (Or.inr (by decide)) (Or.inr (by decide))).trans hv44611
    have hfr : ∀ b j : Nat, (tag b ≠ 18 ∨ j ≠ 10) → (tag b ≠ 24 ∨ j ≠ 2) → (tag b ≠ 24 ∨ j ≠ 3) → (tag b ≠ 24 ∨ j ≠ 4) → (tag b ≠ 24 ∨ j ≠ 5) → (tag b ≠ 24 ∨ j ≠ 6) → (tag b ≠ 24 ∨ j ≠ 7) → (tag b ≠ 25 ∨ j ≠ 3) → (tag b ≠ 25 ∨ j ≠ 4) → (tag b ≠ 25 ∨ j ≠ 12) → fld F b j = fld Fo b j := fun b j n18_10 n24_2 n24_3 n24_4 n24_5 n24_6 n24_7 n25_3 n25_4 n25_12 => (yz44625.1 b j n24_2 n24_3 n24_4 n24_5 n24_6 n24_7 n25_3 n25_4).trans (hfr b j n18_10 n24_2 n24_3 n24_4 n24_5 n24_6 n24_7 n25_3 n25_4 n25_12)
    have hrel := nsr_of (fun j => yz44625.2 _ j (Or.inl gx4)) (fun j => yz44625.2 _ j (Or.inr gx5)) hrel
    refine lv_istore (lv' := [(6, .int z44625), (5, .int z44623), (4, .int z44621), (3, .int z44614), (2, .int z44608), (1, .int x6), (0, .ref p0)]) hx hb dX3_readHouse_131 hl (by decide) rfl (fun ls hl => ?_)
    refine lv_aload_n hx hb dX3_readHouse_133 rfl (lv_at hl 6 rfl) ?_
    refine t_get (C := RX3) (T := TX3) (N := 13) X hT m0 g0 rfl rfl 3 (by decide) qw_163 inlX3 rfl dX3_readHouse_134 (fun v44626 hv44626 ov44626 => ?_)
    obtain ⟨z44627, rfl, rz44627⟩ := okV_i ov44626
    refine lv_if_ne (tgt := 211) hx hb dX3_readHouse_137 (by decide) (fun c44628 => ?_) (fun c44628 => ?_)
    · have w44629 := cv_ne (rfl : z44627.toInt = z44627.toInt) (by decide : (0 : Int32).toInt = 0) c44628
      exact t_vret hQ X hT ⟨hfr, hrel⟩ (Nat.le_of_ble_eq_true rfl) (Nat.le_of_ble_eq_true rfl) dX3_readHouse_211
    · have w44630 := cv_eq (rfl : z44627.toInt = z44627.toInt) (by decide : (0 : Int32).toInt = 0) c44628
      refine lv_iload_n hx hb dX3_readHouse_140 rfl (lv_at hl 5 rfl) ?_
      refine lv_iconst (v := 4) hx hb dX3_readHouse_141 (by decide) ?_
      refine lv_icmp_ge (tgt := 211) hx hb dX3_readHouse_142 (by decide) (fun c44631 => ?_) (fun c44631 => ?_)
      · have w44632 := cv_le (by decide : (4 : Int32).toInt = 4) (rfl : x6.toInt = x6.toInt) c44631
        exfalso
        omega
      · have w44633 := cv_nle (by decide : (4 : Int32).toInt = 4) (rfl : x6.toInt = x6.toInt) c44631
        refine lv_aload_n hx hb dX3_readHouse_145 rfl (lv_at hl 6 rfl) ?_
        refine t_get (C := RX3) (T := TX3) (N := 13) X hT m0 g0 rfl rfl 1 (by decide) qw_161 inlX3 rfl dX3_readHouse_146 (fun v44634 hv44634 ov44634 => ?_)
        obtain rfl : v44634 = .ref x1 := hv44634.symm.trans pf1
        refine t_get (C := RX1) (T := TX1) (N := 20) X hT mx1 gx1 rfl rfl 11 (by decide) qw_373 inlX1 rfl dX3_readHouse_149 (fun v44635 hv44635 ov44635 => ?_)
        obtain ⟨b44636, rfl, mb44636, gb44636⟩ := okV_r ov44635
        have gb44636 : tag b44636 = 4 := tg_of gb44636
        refine lv_iload_n hx hb dX3_readHouse_152 rfl (lv_at hl 5 rfl) ?_
        refine lv_iload_n hx hb dX3_readHouse_153 rfl (lv_at hl 4 rfl) ?_
        refine t_ist X hT mb44636 gb44636 rfl (by omega) (show 0 ≤ (z44608 : Int32).toInt ∧ (z44608 : Int32).toInt ≤ 11 from (by omega)) dX3_readHouse_154 (fun F H locs hT v44637 h1v44637 h2v44637 => ?_)
        have pf0 := (h2v44637 _ _).trans pf0
        have pf1 := (h2v44637 _ _).trans pf1
        have pf2 := (h2v44637 _ _).trans pf2
        have pf3 := (h2v44637 _ _).trans pf3
        have pf4 := (h2v44637 _ _).trans pf4
        have pf5 := (h2v44637 _ _).trans pf5
        have pf6 := (h2v44637 _ _).trans pf6
        have hv44605 := (h2v44637 _ _).trans hv44605
        have hv44611 := (h2v44637 _ _).trans hv44611
        have hv44626 := (h2v44637 _ _).trans hv44626
        have hv44635 := (h2v44637 _ _).trans hv44635
        have hfr : ∀ b j : Nat, (tag b ≠ 18 ∨ j ≠ 10) → (tag b ≠ 24 ∨ j ≠ 2) → (tag b ≠ 24 ∨ j ≠ 3) → (tag b ≠ 24 ∨ j ≠ 4) → (tag b ≠ 24 ∨ j ≠ 5) → (tag b ≠ 24 ∨ j ≠ 6) → (tag b ≠ 24 ∨ j ≠ 7) → (tag b ≠ 25 ∨ j ≠ 3) → (tag b ≠ 25 ∨ j ≠ 4) → (tag b ≠ 25 ∨ j ≠ 12) → fld F b j = fld Fo b j := fun b j n18_10 n24_2 n24_3 n24_4 n24_5 n24_6 n24_7 n25_3 n25_4 n25_12 => (h2v44637 b j).trans (hfr b j n18_10 n24_2 n24_3 n24_4 n24_5 n24_6 n24_7 n25_3 n25_4 n25_12)
        have hrel := nsr_of (fun j => h1v44637 _ j (Or.inl (tne gx4 gb44636 (by decide)))) (fun j => h1v44637 _ j (Or.inl (tne gx5 gb44636 (by decide)))) hrel
        refine lv_aload_n hx hb dX3_readHouse_155 rfl (lv_at hl 6 rfl) ?_
        refine t_get (C := RX3) (T := TX3) (N := 13) X hT m0 g0 rfl rfl 1 (by decide) qw_161 inlX3 rfl dX3_readHouse_156 (fun v44638 hv44638 ov44638 => ?_)
        obtain rfl : v44638 = .ref x1 := hv44638.symm.trans pf1
        refine t_get (C := RX1) (T := TX1) (N := 20) X hT mx1 gx1 rfl rfl 12 (by decide) qw_374 inlX1 rfl dX3_readHouse_159 (fun v44639 hv44639 ov44639 => ?_)
        obtain ⟨b44640, rfl, mb44640, gb44640⟩ := okV_r ov44639
        have gb44640 : tag b44640 = 4 := tg_of gb44640
        refine lv_iload_n hx hb dX3_readHouse_162 rfl (lv_at hl 5 rfl) ?_
        refine lv_iload_n hx hb dX3_readHouse_163 rfl (lv_at hl 3 rfl) ?_
        refine t_ist X hT mb44640 gb44640 rfl (by omega) (show 0 ≤ (z44614 : Int32).toInt ∧ (z44614 : Int32).toInt ≤ 11 from (by omega)) dX3_readHouse_164 (fun F H locs hT v44641 h1v44641 h2v44641 => ?_)
        have pf0 := (h2v44641 _ _).trans pf0
        have pf1 := (h2v44641 _ _).trans pf1
        have pf2 := (h2v44641 _ _).trans pf2
        have pf3 := (h2v44641 _ _).trans pf3
        have pf4 := (h2v44641 _ _).trans pf4
        have pf5 := (h2v44641 _ _).trans pf5
        have pf6 := (h2v44641 _ _).trans pf6
        have hv44605 := (h2v44641 _ _).trans hv44605
        have hv44611 := (h2v44641 _ _).trans hv44611
        have hv44626 := (h2v44641 _ _).trans hv44626
        have hv44635 := (h2v44641 _ _).trans hv44635
        have hv44639 := (h2v44641 _ _).trans hv44639
        have hfr : ∀ b j : Nat, (tag b ≠ 18 ∨ j ≠ 10) → (tag b ≠ 24 ∨ j ≠ 2) → (tag b ≠ 24 ∨ j ≠ 3) → (tag b ≠ 24 ∨ j ≠ 4) → (tag b ≠ 24 ∨ j ≠ 5) → (tag b ≠ 24 ∨ j ≠ 6) → (tag b ≠ 24 ∨ j ≠ 7) → (tag b ≠ 25 ∨ j ≠ 3) → (tag b ≠ 25 ∨ j ≠ 4) → (tag b ≠ 25 ∨ j ≠ 12) → fld F b j = fld Fo b j := fun b j n18_10 n24_2 n24_3 n24_4 n24_5 n24_6 n24_7 n25_3 n25_4 n25_12 => (h2v44641 b j).trans (hfr b j n18_10 n24_2 n24_3 n24_4 n24_5 n24_6 n24_7 n25_3 n25_4 n25_12)
        have hrel := nsr_of (fun j => h1v44641 _ j (Or.inl (tne gx4 gb44640 (by decide)))) (fun j => h1v44641 _ j (Or.inl (tne gx5 gb44640 (by decide)))) hrel
        refine lv_aload_n hx hb dX3_readHouse_165 rfl (lv_at hl 6 rfl) ?_
        refine t_get (C := RX3) (T := TX3) (N := 13) X hT m0 g0 rfl rfl 1 (by decide) qw_161 inlX3 rfl dX3_readHouse_166 (fun v44642 hv44642 ov44642 => ?_)
        obtain rfl : v44642 = .ref x1 := hv44642.symm.trans pf1
        refine t_get (C := RX1) (T := TX1) (N := 20) X hT mx1 gx1 rfl rfl 13 (by decide) qw_375 inlX1 rfl dX3_readHouse_169 (fun v44643 hv44643 ov44643 => ?_)
        obtain ⟨b44644, rfl, mb44644, gb44644⟩ := okV_r ov44643
        have gb44644 : tag b44644 = 5 := tg_of gb44644
        refine lv_iload_n hx hb dX3_readHouse_172 rfl (lv_at hl 5 rfl) ?_
        refine lv_iload hx hb dX3_readHouse_173 (lv_at hl 2 rfl) ?_
        refine t_ist X hT mb44644 gb44644 rfl (by omega) (show (-2147483648) ≤ (z44621 : Int32).toInt ∧ (z44621 : Int32).toInt ≤ 2147483647 from (by omega)) dX3_readHouse_175 (fun F H locs hT v44645 h1v44645 h2v44645 => ?_)
        have pf0 := (h2v44645 _ _).trans pf0
        have pf1 := (h2v44645 _ _).trans pf1
        have pf2 := (h2v44645 _ _).trans pf2
        have pf3 := (h2v44645 _ _).trans pf3
        have pf4 := (h2v44645 _ _).trans pf4
        have pf5 := (h2v44645 _ _).trans pf5
        have pf6 := (h2v44645 _ _).trans pf6
        have hv44605 := (h2v44645 _ _).trans hv44605
        have hv44611 := (h2v44645 _ _).trans hv44611
        have hv44626 := (h2v44645 _ _).trans hv44626
        have hv44635 := (h2v44645 _ _).trans hv44635
        have hv44639 := (h2v44645 _ _).trans hv44639
        have hv44643 := (h2v44645 _ _).trans hv44643
        have hfr : ∀ b j : Nat, (tag b ≠ 18 ∨ j ≠ 10) → (tag b ≠ 24 ∨ j ≠ 2) → (tag b ≠ 24 ∨ j ≠ 3) → (tag b ≠ 24 ∨ j ≠ 4) → (tag b ≠ 24 ∨ j ≠ 5) → (tag b ≠ 24 ∨ j ≠ 6) → (tag b ≠ 24 ∨ j ≠ 7) → (tag b ≠ 25 ∨ j ≠ 3) → (tag b ≠ 25 ∨ j ≠ 4) → (tag b ≠ 25 ∨ j ≠ 12) → fld F b j = fld Fo b j := fun b j n18_10 n24_2 n24_3 n24_4 n24_5 n24_6 n24_7 n25_3 n25_4 n25_12 => (h2v44645 b j).trans (hfr b j n18_10 n24_2 n24_3 n24_4 n24_5 n24_6 n24_7 n25_3 n25_4 n25_12)
        have hrel := nsr_of (fun j => h1v44645 _ j (Or.inl (tne gx4 gb44644 (by decide)))) (fun j => h1v44645 _ j (Or.inl (tne gx5 gb44644 (by decide)))) hrel
        refine lv_aload_n hx hb dX3_readHouse_176 rfl (lv_at hl 6 rfl) ?_
        refine t_get (C := RX3) (T := TX3) (N := 13) X hT m0 g0 rfl rfl 2 (by decide) qw_162 inlX3 rfl dX3_readHouse_177 (fun v44646 hv44646 ov44646 => ?_)
        obtain rfl : v44646 = .ref x2 := hv44646.symm.trans pf2
        refine t_get (C := RX7) (T := TX7) (N := 7) X hT mx2 gx2 rfl rfl 3 (by decide) qw_376 inlX7 rfl dX3_readHouse_180 (fun v44647 hv44647 ov44647 => ?_)
        obtain ⟨b44648, rfl, mb44648, gb44648⟩ := okV_r ov44647
        have gb44648 : tag b44648 = 5 := tg_of gb44648
        refine lv_iload_n hx hb dX3_readHouse_183 rfl (lv_at hl 5 rfl) ?_
        refine lv_iload hx hb dX3_readHouse_184 (lv_at hl 1 rfl) ?_
        refine t_ist X hT mb44648 gb44648 rfl (by omega) (show (-2147483648) ≤ (z44623 : Int32).toInt ∧ (z44623 : Int32).toInt ≤ 2147483647 from (by omega)) dX3_readHouse_186 (fun F H locs hT v44649 h1v44649 h2v44649 => ?_)
        have pf0 := (h2v44649 _ _).trans pf0
        have pf1 := (h2v44649 _ _).trans pf1
        have pf2 := (h2v44649 _ _).trans pf2
        have pf3 := (h2v44649 _ _).trans pf3
        have pf4 := (h2v44649 _ _).trans pf4
        have pf5 := (h2v44649 _ _).trans pf5
        have pf6 := (h2v44649 _ _).trans pf6
        have hv44605 := (h2v44649 _ _).trans hv44605
        have hv44611 := (h2v44649 _ _).trans hv44611
        have hv44626 := (h2v44649 _ _).trans hv44626
        have hv44635 := (h2v44649 _ _).trans hv44635
        have hv44639 := (h2v44649 _ _).trans hv44639
        have hv44643 := (h2v44649 _ _).trans hv44643
        have hv44647 := (h2v44649 _ _).trans hv44647
        have hfr : ∀ b j : Nat, (tag b ≠ 18 ∨ j ≠ 10) → (tag b ≠ 24 ∨ j ≠ 2) → (tag b ≠ 24 ∨ j ≠ 3) → (tag b ≠ 24 ∨ j ≠ 4) → (tag b ≠ 24 ∨ j ≠ 5) → (tag b ≠ 24 ∨ j ≠ 6) → (tag b ≠ 24 ∨ j ≠ 7) → (tag b ≠ 25 ∨ j ≠ 3) → (tag b ≠ 25 ∨ j ≠ 4) → (tag b ≠ 25 ∨ j ≠ 12) → fld F b j = fld Fo b j := fun b j n18_10 n24_2 n24_3 n24_4 n24_5 n24_6 n24_7 n25_3 n25_4 n25_12 => (h2v44649 b j).trans (hfr b j n18_10 n24_2 n24_3 n24_4 n24_5 n24_6 n24_7 n25_3 n25_4 n25_12)
        have hrel := nsr_of (fun j => h1v44649 _ j (Or.inl (tne gx4 gb44648 (by decide)))) (fun j => h1v44649 _ j (Or.inl (tne gx5 gb44648 (by decide)))) hrel
        refine lv_aload_n hx hb dX3_readHouse_187 rfl (lv_at hl 6 rfl) ?_
        refine t_get (C := RX3) (T := TX3) (N := 13) X hT m0 g0 rfl rfl 2 (by decide) qw_162 inlX3 rfl dX3_readHouse_188 (fun v44650 hv44650 ov44650 => ?_)
        obtain rfl : v44650 = .ref x2 := hv44650.symm.trans pf2
        refine t_get (C := RX7) (T := TX7) (N := 7) X hT mx2 gx2 rfl rfl 4 (by decide) qw_377 inlX7 rfl dX3_readHouse_191 (fun v44651 hv44651 ov44651 => ?_)
        obtain ⟨b44652, rfl, mb44652, gb44652⟩ := okV_r ov44651
        have gb44652 : tag b44652 = 5 := tg_of gb44652
        refine lv_iload_n hx hb dX3_readHouse_194 rfl (lv_at hl 5 rfl) ?_
        refine lv_iload hx hb dX3_readHouse_195 (lv_at hl 0 rfl) ?_
        refine t_ist X hT mb44652 gb44652 rfl (by omega) (show (-2147483648) ≤ (z44625 : Int32).toInt ∧ (z44625 : Int32).toInt ≤ 2147483647 from (by omega)) dX3_readHouse_197 (fun F H locs hT v44653 h1v44653 h2v44653 => ?_)
        have pf0 := (h2v44653 _ _).trans pf0
        have pf1 := (h2v44653 _ _).trans pf1
        have pf2 := (h2v44653 _ _).trans pf2
        have pf3 := (h2v44653 _ _).trans pf3
        have pf4 := (h2v44653 _ _).trans pf4
        have pf5 := (h2v44653 _ _).trans pf5
        have pf6 := (h2v44653 _ _).trans pf6
        have hv44605 := (h2v44653 _ _).trans hv44605
        have hv44611 := (h2v44653 _ _).trans hv44611
        have hv44626 := (h2v44653 _ _).trans hv44626
        have hv44635 := (h2v44653 _ _).trans hv44635
        have hv44639 := (h2v44653 _ _).trans hv44639
        have hv44643 := (h2v44653 _ _).trans hv44643
        have hv44647 := (h2v44653 _ _).trans hv44647
        have hv44651 := (h2v44653 _ _).trans hv44651
        have hfr : ∀ b j : Nat, (tag b ≠ 18 ∨ j ≠ 10) → (tag b ≠ 24 ∨ j ≠ 2) → (tag b ≠ 24 ∨ j ≠ 3) → (tag b ≠ 24 ∨ j ≠ 4) → (tag b ≠ 24 ∨ j ≠ 5) → (tag b ≠ 24 ∨ j ≠ 6) → (tag b ≠ 24 ∨ j ≠ 7) → (tag b ≠ 25 ∨ j ≠ 3) → (tag b ≠ 25 ∨ j ≠ 4) → (tag b ≠ 25 ∨ j ≠ 12) → fld F b j = fld Fo b j := fun b j n18_10 n24_2 n24_3 n24_4 n24_5 n24_6 n24_7 n25_3 n25_4 n25_12 => (h2v44653 b j).trans (hfr b j n18_10 n24_2 n24_3 n24_4 n24_5 n24_6 n24_7 n25_3 n25_4 n25_12)
        have hrel := nsr_of (fun j => h1v44653 _ j (Or.inl (tne gx4 gb44652 (by decide)))) (fun j => h1v44653 _ j (Or.inl (tne gx5 gb44652 (by decide)))) hrel
        refine lv_aload_n hx hb dX3_readHouse_198 rfl (lv_at hl 6 rfl) ?_
        refine t_get (C := RX3) (T := TX3) (N := 13) X hT m0 g0 rfl rfl 1 (by decide) qw_161 inlX3 rfl dX3_readHouse_199 (fun v44654 hv44654 ov44654 => ?_)
        obtain rfl : v44654 = .ref x1 := hv44654.symm.trans pf1
        refine lv_dup hx hb dX3_readHouse_202 rfl ?_
        refine t_get (C := RX1) (T := TX1) (N := 20) X hT mx1 gx1 rfl rfl 10 (by decide) qw_172 inlX1 rfl dX3_readHouse_203 (fun v44655 hv44655 ov44655 => ?_)
        obtain rfl : v44655 = .int x6 := hv44655.symm.trans pf6
        refine lv_iconst (v := 1) hx hb dX3_readHouse_206 (by decide) ?_
        refine lv_iadd hx hb dX3_readHouse_207 ?_
        refine lv_topi (fun z44656 ez44656 => ?_)
        have hz44656 : z44656.toInt = x6.toInt + 1 := ar_add ez44656 (rfl : x6.toInt = x6.toInt) (by decide : (1 : Int32).toInt = 1) (by omega) (by omega)
        have rz44656 : 1 ≤ z44656.toInt ∧ z44656.toInt ≤ 4 := by omega
        refine t_put (C := RX1) (T := TX1) (N := 20) (v := .int z44656) X hT mx1 gx1 rfl tyX1 tyX1_ok nmX1 rfl 10 (by decide) qw_172 inlX1 rfl (by first | rfl | decide) (by first | rfl | decide) rfl (⟨_, rfl, (show 0 ≤ (z44656 : Int32).toInt from (by omega)), (show (z44656 : Int32).toInt ≤ 4 from (by omega))⟩) dX3_readHouse_208 (fun F H locs hT v44657 h1v44657 h2v44657 => ?_)
        have pf0 := (h1v44657 _ _ (Or.inr (by decide))).trans pf0
        have pf1 := (h1v44657 _ _ (Or.inr (by decide))).trans pf1
        have pf2 := (h1v44657 _ _ (Or.inr (by decide))).trans pf2
        have pf3 := (h1v44657 _ _ (Or.inr (by decide))).trans pf3
        have pf4 := (h1v44657 _ _ (Or.inl (tne g0 gx1 (by decide)))).trans pf4
        have pf5 := (h1v44657 _ _ (Or.inr (by decide))).trans pf5
        have hv44605 := (h1v44657 _ _ (Or.inr (by decide))).trans hv44605
        have hv44611 := (h1v44657 _ _ (Or.inr (by decide))).trans hv44611
        have hv44626 := (h1v44657 _ _ (Or.inr (by decide))).trans hv44626
        have hv44635 := (h1v44657 _ _ (Or.inr (by decide))).trans hv44635
        have hv44639 := (h1v44657 _ _ (Or.inr (by decide))).trans hv44639
        have hv44643 := (h1v44657 _ _ (Or.inr (by decide))).trans hv44643
        have hv44647 := (h1v44657 _ _ (Or.inr (by decide))).trans hv44647
        have hv44651 := (h1v44657 _ _ (Or.inr (by decide))).trans hv44651
        have v44653 := (h2v44657 _ _).trans v44653
        have hfr : ∀ b j : Nat, (tag b ≠ 18 ∨ j ≠ 10) → (tag b ≠ 24 ∨ j ≠ 2) → (tag b ≠ 24 ∨ j ≠ 3) → (tag b ≠ 24 ∨ j ≠ 4) → (tag b ≠ 24 ∨ j ≠ 5) → (tag b ≠ 24 ∨ j ≠ 6) → (tag b ≠ 24 ∨ j ≠ 7) → (tag b ≠ 25 ∨ j ≠ 3) → (tag b ≠ 25 ∨ j ≠ 4) → (tag b ≠ 25 ∨ j ≠ 12) → fld F b j = fld Fo b j := fun b j n18_10 n24_2 n24_3 n24_4 n24_5 n24_6 n24_7 n25_3 n25_4 n25_12 => (h1v44657 b j (fr_ne gx1 n18_10)).trans (hfr b j n18_10 n24_2 n24_3 n24_4 n24_5 n24_6 n24_7 n25_3 n25_4 n25_12)
        have hrel := nsr_of (fun j => h2v44657 _ j) (fun j => h2v44657 _ j) hrel
        exact t_vret hQ X hT ⟨hfr, hrel⟩ (Nat.le_of_ble_eq_true rfl) (Nat.le_of_ble_eq_true rfl) dX3_readHouse_211
  · have w44658 := cv_eq (rfl : z44617.toInt = z44617.toInt) (by decide : (0 : Int32).toInt = 0) c44618
    refine lv_aload_n hx hb dX3_readHouse_73 rfl (lv_at hl 3 rfl) ?_
    refine lv_bipush (v := 7) hx hb dX3_readHouse_74 (by decide) ?_
    refine lv_aload_n hx hb dX3_readHouse_76 rfl (lv_at hl 3 rfl) ?_
    refine t_get (C := RX3) (T := TX3) (N := 13) X hT m0 g0 rfl rfl 0 (by decide) qw_73 inlX3 rfl dX3_readHouse_77 (fun v44659 hv44659 ov44659 => ?_)
    obtain rfl : v44659 = .ref x0 := hv44659.symm.trans pf0
    refine t_get (C := RX8) (T := TX8) (N := 8) X hT mx0 gx0 rfl rfl 5 (by decide) qw_339 inlX8 rfl dX3_readHouse_80 (fun v44660 hv44660 ov44660 => ?_)
    obtain ⟨z44661, rfl, rz44661⟩ := okV_i ov44660
    refine t_cVv (n := 2) (C := RX3) (T := TX3) (N := 13) (As := [.int 7, .int z44661]) (rest := []) X hT (kt111_X3_fail l G tag L F hT.2.2.2 p0 7 z44661 m0 g0 (by decide)) m0 g0 rfl rfl qw_287 qw_288 qw_289 qw_28 qw_290 ⟨rfl, by decide +kernel, by decide +kernel, by decide +kernel⟩ ⟨Nat.le_of_ble_eq_true rfl, Nat.le_of_ble_eq_true rfl⟩ hl rfl rfl (Nat.le_of_ble_eq_true rfl) dX3_readHouse_83 ⟨Nat.le_of_ble_eq_true rfl, Nat.le_of_ble_eq_true rfl⟩ (fun F H locs hT hz44662 => ?_)
    obtain ⟨yz44662, xz44662_0⟩ := hz44662
    have pf0 := (yz44662.1 _ 0 (Or.inr (by decide)) (Or.inr (by decide))).trans pf0
    have pf1 := (yz44662.1 _ 1 (Or.inr (by decide)) (Or.inr (by decide))).trans pf1
    have pf2 := (yz44662.1 _ 2 (Or.inr (by decide)) (Or.inr (by decide))).trans pf2
    have pf3 := (yz44662.1 _ 0 (Or.inr (by decide)) (Or.inr (by decide))).trans pf3
    have pf4 := (yz44662.1 _ 10 (Or.inr (by decide)) (Or.inr (by decide))).trans pf4
    have pf5 := (yz44662.1 _ 11 (Or.inr (by decide)) (Or.inr (by decide))).trans pf5
    have pf6 := (yz44662.1 _ 10 (Or.inr (by decide)) (Or.inr (by decide))).trans pf6
    have hv44605 := (yz44662.1 _ 0 (Or.inr (by decide)) (Or.inr (by decide))).trans hv44605
    have hv44611 := (yz44662.1 _ 1 (Or.inr (by decide)) (Or.inr (by decide))).trans hv44611
    have hv44660 := (yz44662.1 _ 5 (Or.inr (by decide)) (Or.inr (by decide))).trans hv44660
    have hfr : ∀ b j : Nat, (tag b ≠ 18 ∨ j ≠ 10) → (tag b ≠ 24 ∨ j ≠ 2) → (tag b ≠ 24 ∨ j ≠ 3) → (tag b ≠ 24 ∨ j ≠ 4) → (tag b ≠ 24 ∨ j ≠ 5) → (tag b ≠ 24 ∨ j ≠ 6) → (tag b ≠ 24 ∨ j ≠ 7) → (tag b ≠ 25 ∨ j ≠ 3) → (tag b ≠ 25 ∨ j ≠ 4) → (tag b ≠ 25 ∨ j ≠ 12) → fld F b j = fld Fo b j := fun b j n18_10 n24_2 n24_3 n24_4 n24_5 n24_6 n24_7 n25_3 n25_4 n25_12 => (yz44662.1 b j n25_3 n25_4).trans (hfr b j n18_10 n24_2 n24_3 n24_4 n24_5 n24_6 n24_7 n25_3 n25_4 n25_12)
    have hrel := nsr_of (fun j => yz44662.2 _ j (Or.inl gx4)) (fun j => yz44662.2 _ j (Or.inr gx5)) hrel
    obtain ⟨z44663, qz44663, rz44663⟩ := xz44662_0
    refine lv_aload_n hx hb dX3_readHouse_86 rfl (lv_at hl 3 rfl) ?_
    refine m_ldcKw X 31 rfl dX3_readHouse_87 ?_
    refine t_cVv (n := 1) (C := RX3) (T := TX3) (N := 13) (As := [.ref (G.2 (100 + 31))]) (rest := []) X hT (kt115_X3_word l G tag L F hT.2.2.2 p0 31 x0 x1 x2 x3 x4 x5 m0 g0 (by decide) mx0 gx0 pf0 mx1 gx1 pf1 mx2 gx2 pf2 mx3 gx3 pf3 mx4 gx4 pf4 mx5 gx5 pf5) m0 g0 rfl rfl qw_314 qw_315 qw_316 qw_28 qw_317 ⟨rfl, by decide +kernel, by decide +kernel, by decide +kernel⟩ ⟨Nat.le_of_ble_eq_true rfl, Nat.le_of_ble_eq_true rfl⟩ hl rfl rfl (Nat.le_of_ble_eq_true rfl) dX3_readHouse_90 ⟨Nat.le_of_ble_eq_true rfl, Nat.le_of_ble_eq_true rfl⟩ (fun F H locs hT hz44664 => ?_)
    have yz44664 := hz44664
    have pf0 := (yz44664.1 _ 0 (Or.inr (by decide)) (Or.inr (by decide)) (Or.inr (by decide)) (Or.inr (by decide)) (Or.inr (by decide)) (Or.inr (by decide)) (Or.inr (by decide)) (Or.inr (by decide))).trans pf0
    have pf1 := (yz44664.1 _ 1 (Or.inr (by decide)) (Or.inr (by decide)) (Or.inr (by decide)) (Or.inr (by decide)) (Or.inr (by decide)) (Or.inr (by decide)) (Or.inr (by decide)) (Or.inr (by decide))).trans pf1
    have pf2 := (yz44664.1 _ 2 (Or.inl (by rw [g0]; decide)) (Or.inr (by decide)) (Or.inr (by decide)) (Or.inr (by decide)) (Or.inr (by decide)) (Or.inr (by decide)) (Or.inr (by decide)) (Or.inr (by decide))).trans pf2
    have pf3 := (yz44664.1 _ 0 (Or.inr (by decide)) (Or.inr (by decide)) (Or.inr (by decide)) (Or.inr (by decide)) (Or.inr (by decide)) (Or.inr (by decide)) (Or.inr (by decide)) (Or.inr (by decide))).trans pf3
    have pf4 := (yz44664.1 _ 10 (Or.inr (by decide)) (Or.inr (by decide)) (Or.inr (by decide)) (Or.inr (by decide)) (Or.inr (by decide)) (Or.inr (by decide)) (Or.inr (by decide)) (Or.inr (by decide))).trans pf4
    have pf5 := (yz44664.1 _ 11 (Or.inr (by decide)) (Or.inr (by decide)) (Or.inr (by decide)) (Or.inr (by decide)) (Or.inr (by decide)) (Or.inr (by decide)) (Or.inr (by decide)) (Or.inr (by decide))).trans pf5
    have pf6 := (yz44664.1 _ 10 (Or.inr (by decide)) (Or.inr (by decide)) (Or.inr (by decide)) (Or.inr (by decide)) (Or.inr (by decide)) (Or.inr (by decide)) (Or.inr (by decide)) (Or.inr (by decide))).trans pf6
    have hv44605 := (yz44664.1 _ 0 (Or.inr (by decide)) (Or.inr (by decide)) (Or.inr (by decide)) (Or.inr (by decide)) (Or.inr (by decide)) (Or.inr (by decide)) (Or.inr (by decide)) (Or.inr (by decide))).trans hv44605
    have hv44611 := (yz44664.1 _ 1 (Or.inr (by decide)) (Or.inr (by decide)) (Or.inr (by decide)) (Or.inr (by decide)) (Or.inr (by decide)) (Or.inr (by decide)) (Or.inr (by decide)) (Or.inr (by decide))).trans hv44611
    have hfr : ∀ b j : Nat, (tag b ≠ 18 ∨ j ≠ 10) → (tag b ≠ 24 ∨ j ≠ 2) → (tag b ≠ 24 ∨ j ≠ 3) → (tag b ≠ 24 ∨ j ≠ 4) → (tag b ≠ 24 ∨ j ≠ 5) → (tag b ≠ 24 ∨ j ≠ 6) → (tag b ≠ 24 ∨ j ≠ 7) → (tag b ≠ 25 ∨ j ≠ 3) → (tag b ≠ 25 ∨ j ≠ 4) → (tag b ≠ 25 ∨ j ≠ 12) → fld F b j = fld Fo b j := fun b j n18_10 n24_2 n24_3 n24_4 n24_5 n24_6 n24_7 n25_3 n25_4 n25_12 => (yz44664.1 b j n24_2 n24_3 n24_4 n24_5 n24_6 n24_7 n25_3 n25_4).trans (hfr b j n18_10 n24_2 n24_3 n24_4 n24_5 n24_6 n24_7 n25_3 n25_4 n25_12)
    have hrel := nsr_of (fun j => yz44664.2 _ j (Or.inl gx4)) (fun j => yz44664.2 _ j (Or.inr gx5)) hrel
    refine lv_aload_n hx hb dX3_readHouse_93 rfl (lv_at hl 3 rfl) ?_
    refine lv_iconst (v := 3) hx hb dX3_readHouse_94 (by decide) ?_
    refine t_cVi (n := 1) (C := RX3) (T := TX3) (N := 13) (As := [.int 3]) (rest := []) X hT (kt118_X3_name l G tag L F hT.2.2.2 p0 3 x0 x1 x2 x3 x4 x5 m0 g0 (by decide) mx0 gx0 pf0 mx1 gx1 pf1 mx2 gx2 pf2 mx3 gx3 pf3 mx4 gx4 pf4 mx5 gx5 pf5 hrel) m0 g0 rfl rfl qw_393 qw_394 qw_395 qw_28 qw_396 ⟨rfl, by decide +kernel, by decide +kernel, by decide +kernel⟩ ⟨Nat.le_of_ble_eq_true rfl, Nat.le_of_ble_eq_true rfl⟩ hl rfl rfl (Nat.le_of_ble_eq_true rfl) dX3_readHouse_95 ⟨Nat.le_of_ble_eq_true rfl, Nat.le_of_ble_eq_true rfl⟩ (fun z44665 F H locs hT hz44665 => ?_)
    obtain ⟨hz44665, yz44665, hrel⟩ := hz44665
    have pf0 := (yz44665.1 _ 0 (Or.inr (by decide)) (Or.inr (by decide)) (Or.inr (by decide)) (Or.inr (by decide)) (Or.inr (by decide)) (Or.inr (by decide)) (Or.inr (by decide)) (Or.inr (by decide))).trans pf0
    have pf1 := (yz44665.1 _ 1 (Or.inr (by decide)) (Or.inr (by decide)) (Or.inr (by decide)) (Or.inr (by decide)) (Or.inr (by decide)) (Or.inr (by decide)) (Or.inr (by decide)) (Or.inr (by decide))).trans pf1
    have pf2 := (yz44665.1 _ 2 (Or.inl (by rw [g0]; decide)) (Or.inr (by decide)) (Or.inr (by decide)) (Or.inr (by decide)) (Or.inr (by decide)) (Or.inr (by decide)) (Or.inr (by decide)) (Or.inr (by decide))).trans pf2
    have pf3 := (yz44665.1 _ 0 (Or.inr (by decide)) (Or.inr (by decide)) (Or.inr (by decide)) (Or.inr (by decide)) (Or.inr (by decide)) (Or.inr (by decide)) (Or.inr (by decide)) (Or.inr (by decide))).trans pf3
    have pf4 := (yz44665.1 _ 10 (Or.inr (by decide)) (Or.inr (by decide)) (Or.inr (by decide)) (Or.inr (by decide)) (Or.inr (by decide)) (Or.inr (by decide)) (Or.inr (by decide)) (Or.inr (by decide))).trans pf4
    have pf5 := (yz44665.1 _ 11 (Or.inr (by decide)) (Or.inr (by decide)) (Or.inr (by decide)) (Or.inr (by decide)) (Or.inr (by decide)) (Or.inr (by decide)) (Or.inr (by decide)) (Or.inr (by decide))).trans pf5
    have pf6 := (yz44665.1 _ 10 (Or.inr (by decide)) (Or.inr (by decide)) (Or.inr (by decide)) (Or.inr (by decide)) (Or.inr (by decide)) (Or.inr (by decide)) (Or.inr (by decide)) (Or.inr (by decide))).trans pf6
    have hv44605 := (yz44665.1 _ 0 (Or.inr (by decide)) (Or.inr (by decide)) (Or.inr (by decide)) (Or.inr (by decide)) (Or.inr (by decide)) (Or.inr (by decide)) (Or.inr (by decide)) (Or.inr (by decide))).trans hv44605
    have hv44611 := (yz44665.1 _ 1 (Or.inr (by decide)) (Or.inr (by decide)) (Or.inr (by decide)) (Or.inr (by decide)) (Or.inr (by decide)) (Or.inr (by decide)) (Or.inr (by decide)) (Or.inr (by decide))).trans hv44611
    have hfr : ∀ b j : Nat, (tag b ≠ 18 ∨ j ≠ 10) → (tag b ≠ 24 ∨ j ≠ 2) → (tag b ≠ 24 ∨ j ≠ 3) → (tag b ≠ 24 ∨ j ≠ 4) → (tag b ≠ 24 ∨ j ≠ 5) → (tag b ≠ 24 ∨ j ≠ 6) → (tag b ≠ 24 ∨ j ≠ 7) → (tag b ≠ 25 ∨ j ≠ 3) → (tag b ≠ 25 ∨ j ≠ 4) → (tag b ≠ 25 ∨ j ≠ 12) → fld F b j = fld Fo b j := fun b j n18_10 n24_2 n24_3 n24_4 n24_5 n24_6 n24_7 n25_3 n25_4 n25_12 => (yz44665.1 b j n24_2 n24_3 n24_4 n24_5 n24_6 n24_7 n25_3 n25_4).trans (hfr b j n18_10 n24_2 n24_3 n24_4 n24_5 n24_6 n24_7 n25_3 n25_4 n25_12)
    refine lv_istore (lv' := [(4, .int z44665), (3, .int z44614), (2, .int z44608), (1, .int x6), (0, .ref p0)]) hx hb dX3_readHouse_98 hl (by decide) rfl (fun ls hl => ?_)
    refine lv_aload_n hx hb dX3_readHouse_100 rfl (lv_at hl 4 rfl) ?_
    refine m_ldcKw X 32 rfl dX3_readHouse_101 ?_
    refine t_cVv (n := 1) (C := RX3) (T := TX3) (N := 13) (As := [.ref (G.2 (100 + 32))]) (rest := []) X hT (kt115_X3_word l G tag L F hT.2.2.2 p0 32 x0 x1 x2 x3 x4 x5 m0 g0 (by decide) mx0 gx0 pf0 mx1 gx1 pf1 mx2 gx2 pf2 mx3 gx3 pf3 mx4 gx4 pf4 mx5 gx5 pf5) m0 g0 rfl rfl qw_314 qw_315 qw_316 qw_28 qw_317 ⟨rfl, by decide +kernel, by decide +kernel, by decide +kernel⟩ ⟨Nat.le_of_ble_eq_true rfl, Nat.le_of_ble_eq_true rfl⟩ hl rfl rfl (Nat.le_of_ble_eq_true rfl) dX3_readHouse_104 ⟨Nat.le_of_ble_eq_true rfl, Nat.le_of_ble_eq_true rfl⟩ (fun F H locs hT hz44666 => ?_)
    have yz44666 := hz44666
    have pf0 := (yz44666.1 _ 0 (Or.inr (by decide)) (Or.inr (by decide)) (Or.inr (by decide)) (Or.inr (by decide)) (Or.inr (by decide)) (Or.inr (by decide)) (Or.inr (by decide)) (Or.inr (by decide))).trans pf0
    have pf1 := (yz44666.1 _ 1 (Or.inr (by decide)) (Or.inr (by decide)) (Or.inr (by decide)) (Or.inr (by decide)) (Or.inr (by decide)) (Or.inr (by decide)) (Or.inr (by decide)) (Or.inr (by decide))).trans pf1
    have pf2 := (yz44666.1 _ 2 (Or.inl (by rw [g0]; decide)) (Or.inr (by decide)) (Or.inr (by decide)) (Or.inr (by decide)) (Or.inr (by decide)) (Or.inr (by decide)) (Or.inr (by decide)) (Or.inr (by decide))).trans pf2
    have pf3 := (yz44666.1 _ 0 (Or.inr (by decide)) (Or.inr (by decide)) (Or.inr (by decide)) (Or.inr (by decide)) (Or.inr (by decide)) (Or.inr (by decide)) (Or.inr (by decide)) (Or.inr (by decide))).trans pf3
    have pf4 := (yz44666.1 _ 10 (Or.inr (by decide)) (Or.inr (by decide)) (Or.inr (by decide)) (Or.inr (by decide)) (Or.inr (by decide)) (Or.inr (by decide)) (Or.inr (by decide)) (Or.inr (by decide))).trans pf4
    have pf5 := (yz44666.1 _ 11 (Or.inr (by decide)) (Or.inr (by decide)) (Or.inr (by decide)) (Or.inr (by decide)) (Or.inr (by decide)) (Or.inr (by decide)) (Or.inr (by decide)) (Or.inr (by decide))).trans pf5
    have pf6 := (yz44666.1 _ 10 (Or.inr (by decide)) (Or.inr (by decide)) (Or.inr (by decide)) (Or.inr (by decide)) (Or.inr (by decide)) (Or.inr (by decide)) (Or.inr (by decide)) (Or.inr (by decide))).trans pf6
    have hv44605 := (yz44666.1 _ 0 (Or.inr (by decide)) (Or.inr (by decide)) (Or.inr (by decide)) (Or.inr (by decide)) (Or.inr (by decide)) (Or.inr (by decide)) (Or.inr (by decide)) (Or.inr (by decide))).trans hv44605
    have hv44611 := (yz44666.1 _ 1 (Or.inr (by decide)) (Or.inr (by decide)) (Or.inr (by decide)) (Or.inr (by decide)) (Or.inr (by decide)) (Or.inr (by decide)) (Or.inr (by decide)) (Or.inr (by decide))).trans hv44611
    have hfr : ∀ b j : Nat, (tag b ≠ 18 ∨ j ≠ 10) → (tag b ≠ 24 ∨ j ≠ 2) → (tag b ≠ 24 ∨ j ≠ 3) → (tag b ≠ 24 ∨ j ≠ 4) → (tag b ≠ 24 ∨ j ≠ 5) → (tag b ≠ 24 ∨ j ≠ 6) → (tag b ≠ 24 ∨ j ≠ 7) → (tag b ≠ 25 ∨ j ≠ 3) → (tag b ≠ 25 ∨ j ≠ 4) → (tag b ≠ 25 ∨ j ≠ 12) → fld F b j = fld Fo b j := fun b j n18_10 n24_2 n24_3 n24_4 n24_5 n24_6 n24_7 n25_3 n25_4 n25_12 => (yz44666.1 b j n24_2 n24_3 n24_4 n24_5 n24_6 n24_7 n25_3 n25_4).trans (hfr b j n18_10 n24_2 n24_3 n24_4 n24_5 n24_6 n24_7 n25_3 n25_4 n25_12)
    have hrel := nsr_of (fun j => yz44666.2 _ j (Or.inl gx4)) (fun j => yz44666.2 _ j (Or.inr gx5)) hrel
    refine lv_aload_n hx hb dX3_readHouse_107 rfl (lv_at hl 4 rfl) ?_
    refine lv_iconst (v := 0) hx hb dX3_readHouse_108 (by decide) ?_
    refine lv_bipush (v := 99) hx hb dX3_readHouse_109 (by decide) ?_
    refine t_cVi (n := 2) (C := RX3) (T := TX3) (N := 13) (As := [.int 0, .int 99]) (rest := []) X hT (kt119_X3_whole l G tag L F hT.2.2.2 p0 0 99 x0 x1 x2 x3 x4 x5 m0 g0 (by decide) (by decide) mx0 gx0 pf0 mx1 gx1 pf1 mx2 gx2 pf2 mx3 gx3 pf3 mx4 gx4 pf4 mx5 gx5 pf5) m0 g0 rfl rfl qw_318 qw_319 qw_320 qw_28 qw_321 ⟨rfl, by decide +kernel, by decide +kernel, by decide +kernel⟩ ⟨Nat.le_of_ble_eq_true rfl, Nat.le_of_ble_eq_true rfl⟩ hl rfl rfl (Nat.le_of_ble_eq_true rfl) dX3_readHouse_111 ⟨Nat.le_of_ble_eq_true rfl, Nat.le_of_ble_eq_true rfl⟩ (fun z44667 F H locs hT hz44667 => ?_)
    obtain ⟨hz44667, yz44667⟩ := hz44667
    have pf0 := (yz44667.1 _ 0 (Or.inr (by decide)) (Or.inr (by decide)) (Or.inr (by decide)) (Or.inr (by decide)) (Or.inr (by decide)) (Or.inr (by decide)) (Or.inr (by decide)) (Or.inr (by decide))).trans pf0
    have pf1 := (yz44667.1 _ 1 (Or.inr (by decide)) (Or.inr (by decide)) (Or.inr (by decide)) (Or.inr (by decide)) (Or.inr (by decide)) (Or.inr (by decide)) (Or.inr (by decide)) (Or.inr (by decide))).trans pf1
    have pf2 := (yz44667.1 _ 2 (Or.inl (by rw [g0]; decide)) (Or.inr (by decide)) (Or.inr (by decide)) (Or.inr (by decide)) (Or.inr (by decide)) (Or.inr (by decide)) (Or.inr (by decide)) (Or.inr (by decide))).trans pf2
    have pf3 := (yz44667.1 _ 0 (Or.inr (by decide)) (Or.inr (by decide)) (Or.inr (by decide)) (Or.inr (by decide)) (Or.inr (by decide)) (Or.inr (by decide)) (Or.inr (by decide)) (Or.inr (by decide))).trans pf3
    have pf4 := (yz44667.1 _ 10 (Or.inr (by decide)) (Or.inr (by decide)) (Or.inr (by decide)) (Or.inr (by decide)) (Or.inr (by decide)) (Or.inr (by decide)) (Or.inr (by decide)) (Or.inr (by decide))).trans pf4
    have pf5 := (yz44667.1 _ 11 (Or.inr (by decide)) (Or.inr (by decide)) (Or.inr (by decide)) (Or.inr (by decide)) (Or.inr (by decide)) (Or.inr (by decide)) (Or.inr (by decide)) (Or.inr (by decide))).trans pf5
    have pf6 := (yz44667.1 _ 10 (Or.inr (by decide)) (Or.inr (by decide)) (Or.inr (by decide)) (Or.inr (by decide)) (Or.inr (by decide)) (Or.inr (by decide)) (Or.inr (by decide)) (Or.inr (by decide))).trans pf6
    have hv44605 := (yz44667.1 _ 0 (Or.inr (by decide)) (Or.inr (by decide)) (Or.inr (by decide)) (Or.inr (by decide)) (Or.inr (by decide)) (Or.inr (by decide)) (Or.inr (by decide)) (Or.inr (by decide))).trans hv44605
    have hv44611 := (yz44667.1 _ 1 (Or.inr (by decide)) (Or.inr (by decide)) (Or.inr (by decide)) (Or.inr (by decide)) (Or.inr (by decide)) (Or.inr (by decide)) (Or.inr (by decide)) (Or.inr (by decide))).trans hv44611
    have hfr : ∀ b j : Nat, (tag b ≠ 18 ∨ j ≠ 10) → (tag b ≠ 24 ∨ j ≠ 2) → (tag b ≠ 24 ∨ j ≠ 3) → (tag b ≠ 24 ∨ j ≠ 4) → (tag b ≠ 24 ∨ j ≠ 5) → (tag b ≠ 24 ∨ j ≠ 6) → (tag b ≠ 24 ∨ j ≠ 7) → (tag b ≠ 25 ∨ j ≠ 3) → (tag b ≠ 25 ∨ j ≠ 4) → (tag b ≠ 25 ∨ j ≠ 12) → fld F b j = fld Fo b j := fun b j n18_10 n24_2 n24_3 n24_4 n24_5 n24_6 n24_7 n25_3 n25_4 n25_12 => (yz44667.1 b j n24_2 n24_3 n24_4 n24_5 n24_6 n24_7 n25_3 n25_4).trans (hfr b j n18_10 n24_2 n24_3 n24_4 n24_5 n24_6 n24_7 n25_3 n25_4 n25_12)
    have hrel := nsr_of (fun j => yz44667.2 _ j (Or.inl gx4)) (fun j => yz44667.2 _ j (Or.inr gx5)) hrel
    refine lv_istore (lv' := [(5, .int z44667), (4, .int z44665), (3, .int z44614), (2, .int z44608), (1, .int x6), (0, .ref p0)]) hx hb dX3_readHouse_114 hl (by decide) rfl (fun ls hl => ?_)
    refine lv_aload_n hx hb dX3_readHouse_116 rfl (lv_at hl 5 rfl) ?_
    refine m_ldcKw X 33 rfl dX3_readHouse_117 ?_
    refine t_cVv (n := 1) (C := RX3) (T := TX3) (N := 13) (As := [.ref (G.2 (100 + 33))]) (rest := []) X hT (kt115_X3_word l G tag L F hT.2.2.2 p0 33 x0 x1 x2 x3 x4 x5 m0 g0 (by decide) mx0 gx0 pf0 mx1 gx1 pf1 mx2 gx2 pf2 mx3 gx3 pf3 mx4 gx4 pf4 mx5 gx5 pf5) m0 g0 rfl rfl qw_314 qw_315 qw_316 qw_28 qw_317 ⟨rfl, by decide +kernel, by decide +kernel, by decide +kernel⟩ ⟨Nat.le_of_ble_eq_true rfl, Nat.le_of_ble_eq_true rfl⟩ hl rfl rfl (Nat.le_of_ble_eq_true rfl) dX3_readHouse_120 ⟨Nat.le_of_ble_eq_true rfl, Nat.le_of_ble_eq_true rfl⟩ (fun F H locs hT hz44668 => ?_)
    have yz44668 := hz44668
    have pf0 := (yz44668.1 _ 0 (Or.inr (by decide)) (Or.inr (by decide)) (Or.inr (by decide)) (Or.inr (by decide)) (Or.inr (by decide)) (Or.inr (by decide)) (Or.inr (by decide)) (Or.inr (by decide))).trans pf0
    have pf1 := (yz44668.1 _ 1 (Or.inr (by decide)) (Or.inr (by decide)) (Or.inr (by decide)) (Or.inr (by decide)) (Or.inr (by decide)) (Or.inr (by decide)) (Or.inr (by decide)) (Or.inr (by decide))).trans pf1
    have pf2 := (yz44668.1 _ 2 (Or.inl (by rw [g0]; decide)) (Or.inr (by decide)) (Or.inr (by decide)) (Or.inr (by decide)) (Or.inr (by decide)) (Or.inr (by decide)) (Or.inr (by decide)) (Or.inr (by decide))).trans pf2
    have pf3 := (yz44668.1 _ 0 (Or.inr (by decide)) (Or.inr (by decide)) (Or.inr (by decide)) (Or.inr (by decide)) (Or.inr (by decide)) (Or.inr (by decide)) (Or.inr (by decide)) (Or.inr (by decide))).trans pf3
    have pf4 := (yz44668.1 _ 10 (Or.inr (by decide)) (Or.inr (by decide)) (Or.inr (by decide)) (Or.inr (by decide)) (Or.inr (by decide)) (Or.inr (by decide)) (Or.inr (by decide)) (Or.inr (by decide))).trans pf4
    have pf5 := (yz44668.1 _ 11 (Or.inr (by decide)) (Or.inr (by decide)) (Or.inr (by decide)) (Or.inr (by decide)) (Or.inr (by decide)) (Or.inr (by decide)) (Or.inr (by decide)) (Or.inr (by decide))).trans pf5
    have pf6 := (yz44668.1 _ 10 (Or.inr (by decide)) (Or.inr (by decide)) (Or.inr (by decide)) (Or.inr (by decide)) (Or.inr (by decide)) (Or.inr (by decide)) (Or.inr (by decide)) (Or.inr (by decide))).trans pf6
    have hv44605 := (yz44668.1 _ 0 (Or.inr (by decide)) (Or.inr (by decide)) (Or.inr (by decide)) (Or.inr (by decide)) (Or.inr (by decide)) (Or.inr (by decide)) (Or.inr (by decide)) (Or.inr (by decide))).trans hv44605
    have hv44611 := (yz44668.1 _ 1 (Or.inr (by decide)) (Or.inr (by decide)) (Or.inr (by decide)) (Or.inr (by decide)) (Or.inr (by decide)) (Or.inr (by decide)) (Or.inr (by decide)) (Or.inr (by decide))).trans hv44611
    have hfr : ∀ b j : Nat, (tag b ≠ 18 ∨ j ≠ 10) → (tag b ≠ 24 ∨ j ≠ 2) → (tag b ≠ 24 ∨ j ≠ 3) → (tag b ≠ 24 ∨ j ≠ 4) → (tag b ≠ 24 ∨ j ≠ 5) → (tag b ≠ 24 ∨ j ≠ 6) → (tag b ≠ 24 ∨ j ≠ 7) → (tag b ≠ 25 ∨ j ≠ 3) → (tag b ≠ 25 ∨ j ≠ 4) → (tag b ≠ 25 ∨ j ≠ 12) → fld F b j = fld Fo b j := fun b j n18_10 n24_2 n24_3 n24_4 n24_5 n24_6 n24_7 n25_3 n25_4 n25_12 => (yz44668.1 b j n24_2 n24_3 n24_4 n24_5 n24_6 n24_7 n25_3 n25_4).trans (hfr b j n18_10 n24_2 n24_3 n24_4 n24_5 n24_6 n24_7 n25_3 n25_4 n25_12)
    have hrel := nsr_of (fun j => yz44668.2 _ j (Or.inl gx4)) (fun j => yz44668.2 _ j (Or.inr gx5)) hrel
    refine lv_aload_n hx hb dX3_readHouse_123 rfl (lv_at hl 5 rfl) ?_
    refine lv_iconst (v := 0) hx hb dX3_readHouse_124 (by decide) ?_
    refine lv_sipush (v := 999) hx hb dX3_readHouse_125 (by decide) ?_
    refine t_cVi (n := 2) (C := RX3) (T := TX3) (N := 13) (As := [.int 0, .int 999]) (rest := []) X hT (kt120_X3_whole l G tag L F hT.2.2.2 p0 0 999 x0 x1 x2 x3 x4 x5 m0 g0 (by decide) (by decide) mx0 gx0 pf0 mx1 gx1 pf1 mx2 gx2 pf2 mx3 gx3 pf3 mx4 gx4 pf4 mx5 gx5 pf5) m0 g0 rfl rfl qw_318 qw_319 qw_320 qw_28 qw_321 ⟨rfl, by decide +kernel, by decide +kernel, by decide +kernel⟩ ⟨Nat.le_of_ble_eq_true rfl, Nat.le_of_ble_eq_true rfl⟩ hl rfl rfl (Nat.le_of_ble_eq_true rfl) dX3_readHouse_128 ⟨Nat.le_of_ble_eq_true rfl, Nat.le_of_ble_eq_true rfl⟩ (fun z44669 F H locs hT hz44669 => ?_)
    obtain ⟨hz44669, yz44669⟩ := hz44669
    have pf0 := (yz44669.1 _ 0 (Or.inr (by decide)) (Or.inr (by decide)) (Or.inr (by decide)) (Or.inr (by decide)) (Or.inr (by decide)) (Or.inr (by decide)) (Or.inr (by decide)) (Or.inr (by decide))).trans pf0
    have pf1 := (yz44669.1 _ 1 (Or.inr (by decide)) (Or.inr (by decide)) (Or.inr (by decide)) (Or.inr (by decide)) (Or.inr (by decide)) (Or.inr (by decide)) (Or.inr (by decide)) (Or.inr (by decide))).trans pf1
    have pf2 := (yz44669.1 _ 2 (Or.inl (by rw [g0]; decide)) (Or.inr (by decide)) (Or.inr (by decide)) (Or.inr (by decide)) (Or.inr (by decide)) (Or.inr (by decide)) (Or.inr (by decide)) (Or.inr (by decide))).trans pf2
    have pf3 := (yz44669.1 _ 0 (Or.inr (by decide)) (Or.inr (by decide)) (Or.inr (by decide)) (Or.inr (by decide)) (Or.inr (by decide)) (Or.inr (by decide)) (Or.inr (by decide)) (Or.inr (by decide))).trans pf3
    have pf4 := (yz44669.1 _ 10 (Or.inr (by decide)) (Or.inr (by decide)) (Or.inr (by decide)) (Or.inr (by decide)) (Or.inr (by decide)) (Or.inr (by decide)) (Or.inr (by decide)) (Or.inr (by decide))).trans pf4
    have pf5 := (yz44669.1 _ 11 (Or.inr (by decide)) (Or.inr (by decide)) (Or.inr (by decide)) (Or.inr (by decide)) (Or.inr (by decide)) (Or.inr (by decide)) (Or.inr (by decide)) (Or.inr (by decide))).trans pf5
    have pf6 := (yz44669.1 _ 10 (Or.inr (by decide)) (Or.inr (by decide)) (Or.inr (by decide)) (Or.inr (by decide)) (Or.inr (by decide)) (Or.inr (by decide)) (Or.inr (by decide)) (Or.inr (by decide))).trans pf6
    have hv44605 := (yz44669.1 _ 0 (Or.inr (by decide)) (Or.inr (by decide)) (Or.inr (by decide)) (Or.inr (by decide)) (Or.inr (by decide)) (Or.inr (by decide)) (Or.inr (by decide)) (Or.inr (by decide))).trans hv44605
    have hv44611 := (yz44669.1 _ 1 (Or.inr (by decide)) (Or.inr (by decide)) (Or.inr (by decide)) (Or.inr (by decide)) (Or.inr (by decide)) (Or.inr (by decide)) (Or.inr (by decide)) (Or.inr (by decide))).trans hv44611
    have hfr : ∀ b j : Nat, (tag b ≠ 18 ∨ j ≠ 10) → (tag b ≠ 24 ∨ j ≠ 2) → (tag b ≠ 24 ∨ j ≠ 3) → (tag b ≠ 24 ∨ j ≠ 4) → (tag b ≠ 24 ∨ j ≠ 5) → (tag b ≠ 24 ∨ j ≠ 6) → (tag b ≠ 24 ∨ j ≠ 7) → (tag b ≠ 25 ∨ j ≠ 3) → (tag b ≠ 25 ∨ j ≠ 4) → (tag b ≠ 25 ∨ j ≠ 12) → fld F b j = fld Fo b j := fun b j n18_10 n24_2 n24_3 n24_4 n24_5 n24_6 n24_7 n25_3 n25_4 n25_12 => (yz44669.1 b j n24_2 n24_3 n24_4 n24_5 n24_6 n24_7 n25_3 n25_4).trans (hfr b j n18_10 n24_2 n24_3 n24_4 n24_5 n24_6 n24_7 n25_3 n25_4 n25_12)
    have hrel := nsr_of (fun j => yz44669.2 _ j (Or.inl gx4)) (fun j => yz44669.2 _ j (Or.inr gx5)) hrel
    refine lv_istore (lv' := [(6, .int z44669), (5, .int z44667), (4, .int z44665), (3, .int z44614), (2, .int z44608), (1, .int x6), (0, .ref p0)]) hx hb dX3_readHouse_131 hl (by decide) rfl (fun ls hl => ?_)
    refine lv_aload_n hx hb dX3_readHouse_133 rfl (lv_at hl 6 rfl) ?_
    refine t_get (C := RX3) (T := TX3) (N := 13) X hT m0 g0 rfl rfl 3 (by decide) qw_163 inlX3 rfl dX3_readHouse_134 (fun v44670 hv44670 ov44670 => ?_)
    obtain ⟨z44671, rfl, rz44671⟩ := okV_i ov44670
    refine lv_if_ne (tgt := 211) hx hb dX3_readHouse_137 (by decide) (fun c44672 => ?_) (fun c44672 => ?_)
    · have w44673 := cv_ne (rfl : z44671.toInt = z44671.toInt) (by decide : (0 : Int32).toInt = 0) c44672
      exact t_vret hQ X hT ⟨hfr, hrel⟩ (Nat.le_of_ble_eq_true rfl) (Nat.le_of_ble_eq_true rfl) dX3_readHouse_211
    · have w44674 := cv_eq (rfl : z44671.toInt = z44671.toInt) (by decide : (0 : Int32).toInt = 0) c44672
      refine lv_iload_n hx hb dX3_readHouse_140 rfl (lv_at hl 5 rfl) ?_
      refine lv_iconst (v := 4) hx hb dX3_readHouse_141 (by decide) ?_
      refine lv_icmp_ge (tgt := 211) hx hb dX3_readHouse_142 (by decide) (fun c44675 => ?_) (fun c44675 => ?_)
      · have w44676 := cv_le (by decide : (4 : Int32).toInt = 4) (rfl : x6.toInt = x6.toInt) c44675
        exfalso
        omega
      · have w44677 := cv_nle (by decide : (4 : Int32).toInt = 4) (rfl : x6.toInt = x6.toInt) c44675
        refine lv_aload_n hx hb dX3_readHouse_145 rfl (lv_at hl 6 rfl) ?_
        refine t_get (C := RX3) (T := TX3) (N := 13) X hT m0 g0 rfl rfl 1 (by decide) qw_161 inlX3 rfl dX3_readHouse_146 (fun v44678 hv44678 ov44678 => ?_)
        obtain rfl : v44678 = .ref x1 := hv44678.symm.trans pf1
        refine t_get (C := RX1) (T := TX1) (N := 20) X hT mx1 gx1 rfl rfl 11 (by decide) qw_373 inlX1 rfl dX3_readHouse_149 (fun v44679 hv44679 ov44679 => ?_)
        obtain ⟨b44680, rfl, mb44680, gb44680⟩ := okV_r ov44679
        have gb44680 : tag b44680 = 4 := tg_of gb44680
        refine lv_iload_n hx hb dX3_readHouse_152 rfl (lv_at hl 5 rfl) ?_
        refine lv_iload_n hx hb dX3_readHouse_153 rfl (lv_at hl 4 rfl) ?_
        refine t_ist X hT mb44680 gb44680 rfl (by omega) (show 0 ≤ (z44608 : Int32).toInt ∧ (z44608 : Int32).toInt ≤ 11 from (by omega)) dX3_readHouse_154 (fun F H locs hT v44681 h1v44681 h2v44681 => ?_)
        have pf0 := (h2v44681 _ _).trans pf0
        have pf1 := (h2v44681 _ _).trans pf1
        have pf2 := (h2v44681 _ _).trans pf2
        have pf3 := (h2v44681 _ _).trans pf3
        have pf4 := (h2v44681 _ _).trans pf4
        have pf5 := (h2v44681 _ _).trans pf5
        have pf6 := (h2v44681 _ _).trans pf6
        have hv44605 := (h2v44681 _ _).trans hv44605
        have hv44611 := (h2v44681 _ _).trans hv44611
        have hv44670 := (h2v44681 _ _).trans hv44670
        have hv44679 := (h2v44681 _ _).trans hv44679
        have hfr : ∀ b j : Nat, (tag b ≠ 18 ∨ j ≠ 10) → (tag b ≠ 24 ∨ j ≠ 2) → (tag b ≠ 24 ∨ j ≠ 3) → (tag b ≠ 24 ∨ j ≠ 4) → (tag b ≠ 24 ∨ j ≠ 5) → (tag b ≠ 24 ∨ j ≠ 6) → (tag b ≠ 24 ∨ j ≠ 7) → (tag b ≠ 25 ∨ j ≠ 3) → (tag b ≠ 25 ∨ j ≠ 4) → (tag b ≠ 25 ∨ j ≠ 12) → fld F b j = fld Fo b j := fun b j n18_10 n24_2 n24_3 n24_4 n24_5 n24_6 n24_7 n25_3 n25_4 n25_12 => (h2v44681 b j).trans (hfr b j n18_10 n24_2 n24_3 n24_4 n24_5 n24_6 n24_7 n25_3 n25_4 n25_12)
        have hrel := nsr_of (fun j => h1v44681 _ j (Or.inl (tne gx4 gb44680 (by decide)))) (fun j => h1v44681 _ j (Or.inl (tne gx5 gb44680 (by decide)))) hrel
        refine lv_aload_n hx hb dX3_readHouse_155 rfl (lv_at hl 6 rfl) ?_
        refine t_get (C := RX3) (T := TX3) (N := 13) X hT m0 g0 rfl rfl 1 (by decide) qw_161 inlX3 rfl dX3_readHouse_156 (fun v44682 hv44682 ov44682 => ?_)
        obtain rfl : v44682 = .ref x1 := hv44682.symm.trans pf1
        refine t_get (C := RX1) (T := TX1) (N := 20) X hT mx1 gx1 rfl rfl 12 (by decide) qw_374 inlX1 rfl dX3_readHouse_159 (fun v44683 hv44683 ov44683 => ?_)
        obtain ⟨b44684, rfl, mb44684, gb44684⟩ := okV_r ov44683
        have gb44684 : tag b44684 = 4 := tg_of gb44684
        refine lv_iload_n hx hb dX3_readHouse_162 rfl (lv_at hl 5 rfl) ?_
        refine lv_iload_n hx hb dX3_readHouse_163 rfl (lv_at hl 3 rfl) ?_
        refine t_ist X hT mb44684 gb44684 rfl (by omega) (show 0 ≤ (z44614 : Int32).toInt ∧ (z44614 : Int32).toInt ≤ 11 from (by omega)) dX3_readHouse_164 (fun F H locs hT v44685 h1v44685 h2v44685 => ?_)
        have pf0 := (h2v44685 _ _).trans pf0
        have pf1 := (h2v44685 _ _).trans pf1
        have pf2 := (h2v44685 _ _).trans pf2
        have pf3 := (h2v44685 _ _).trans pf3
        have pf4 := (h2v44685 _ _).trans pf4
        have pf5 := (h2v44685 _ _).trans pf5
        have pf6 := (h2v44685 _ _).trans pf6
        have hv44605 := (h2v44685 _ _).trans hv44605
        have hv44611 := (h2v44685 _ _).trans hv44611
        have hv44670 := (h2v44685 _ _).trans hv44670
        have hv44679 := (h2v44685 _ _).trans hv44679
        have hv44683 := (h2v44685 _ _).trans hv44683
        have hfr : ∀ b j : Nat, (tag b ≠ 18 ∨ j ≠ 10) → (tag b ≠ 24 ∨ j ≠ 2) → (tag b ≠ 24 ∨ j ≠ 3) → (tag b ≠ 24 ∨ j ≠ 4) → (tag b ≠ 24 ∨ j ≠ 5) → (tag b ≠ 24 ∨ j ≠ 6) → (tag b ≠ 24 ∨ j ≠ 7) → (tag b ≠ 25 ∨ j ≠ 3) → (tag b ≠ 25 ∨ j ≠ 4) → (tag b ≠ 25 ∨ j ≠ 12) → fld F b j = fld Fo b j := fun b j n18_10 n24_2 n24_3 n24_4 n24_5 n24_6 n24_7 n25_3 n25_4 n25_12 => (h2v44685 b j).trans (hfr b j n18_10 n24_2 n24_3 n24_4 n24_5 n24_6 n24_7 n25_3 n25_4 n25_12)
        have hrel := nsr_of (fun j => h1v44685 _ j (Or.inl (tne gx4 gb44684 (by decide)))) (fun j => h1v44685 _ j (Or.inl (tne gx5 gb44684 (by decide)))) hrel
        refine lv_aload_n hx hb dX3_readHouse_165 rfl (lv_at hl 6 rfl) ?_
        refine t_get (C := RX3) (T := TX3) (N := 13) X hT m0 g0 rfl rfl 1 (by decide) qw_161 inlX3 rfl dX3_readHouse_166 (fun v44686 hv44686 ov44686 => ?_)
        obtain rfl : v44686 = .ref x1 := hv44686.symm.trans pf1
        refine t_get (C := RX1) (T := TX1) (N := 20) X hT mx1 gx1 rfl rfl 13 (by decide) qw_375 inlX1 rfl dX3_readHouse_169 (fun v44687 hv44687 ov44687 => ?_)
        obtain ⟨b44688, rfl, mb44688, gb44688⟩ := okV_r ov44687
        have gb44688 : tag b44688 = 5 := tg_of gb44688
        refine lv_iload_n hx hb dX3_readHouse_172 rfl (lv_at hl 5 rfl) ?_
        refine lv_iload hx hb dX3_readHouse_173 (lv_at hl 2 rfl) ?_
        refine t_ist X hT mb44688 gb44688 rfl (by omega) (show (-2147483648) ≤ (z44665 : Int32).toInt ∧ (z44665 : Int32).toInt ≤ 2147483647 from (by omega)) dX3_readHouse_175 (fun F H locs hT v44689 h1v44689 h2v44689 => ?_)
        have pf0 := (h2v44689 _ _).trans pf0
        have pf1 := (h2v44689 _ _).trans pf1
        have pf2 := (h2v44689 _ _).trans pf2
        have pf3 := (h2v44689 _ _).trans pf3
        have pf4 := (h2v44689 _ _).trans pf4
        have pf5 := (h2v44689 _ _).trans pf5
        have pf6 := (h2v44689 _ _).trans pf6
        have hv44605 := (h2v44689 _ _).trans hv44605
        have hv44611 := (h2v44689 _ _).trans hv44611
        have hv44670 := (h2v44689 _ _).trans hv44670
        have hv44679 := (h2v44689 _ _).trans hv44679
        have hv44683 := (h2v44689 _ _).trans hv44683
        have hv44687 := (h2v44689 _ _).trans hv44687
        have hfr : ∀ b j : Nat, (tag b ≠ 18 ∨ j ≠ 10) → (tag b ≠ 24 ∨ j ≠ 2) → (tag b ≠ 24 ∨ j ≠ 3) → (tag b ≠ 24 ∨ j ≠ 4) → (tag b ≠ 24 ∨ j ≠ 5) → (tag b ≠ 24 ∨ j ≠ 6) → (tag b ≠ 24 ∨ j ≠ 7) → (tag b ≠ 25 ∨ j ≠ 3) → (tag b ≠ 25 ∨ j ≠ 4) → (tag b ≠ 25 ∨ j ≠ 12) → fld F b j = fld Fo b j := fun b j n18_10 n24_2 n24_3 n24_4 n24_5 n24_6 n24_7 n25_3 n25_4 n25_12 => (h2v44689 b j).trans (hfr b j n18_10 n24_2 n24_3 n24_4 n24_5 n24_6 n24_7 n25_3 n25_4 n25_12)
        have hrel := nsr_of (fun j => h1v44689 _ j (Or.inl (tne gx4 gb44688 (by decide)))) (fun j => h1v44689 _ j (Or.inl (tne gx5 gb44688 (by decide)))) hrel
        refine lv_aload_n hx hb dX3_readHouse_176 rfl (lv_at hl 6 rfl) ?_
        refine t_get (C := RX3) (T := TX3) (N := 13) X hT m0 g0 rfl rfl 2 (by decide) qw_162 inlX3 rfl dX3_readHouse_177 (fun v44690 hv44690 ov44690 => ?_)
        obtain rfl : v44690 = .ref x2 := hv44690.symm.trans pf2
        refine t_get (C := RX7) (T := TX7) (N := 7) X hT mx2 gx2 rfl rfl 3 (by decide) qw_376 inlX7 rfl dX3_readHouse_180 (fun v44691 hv44691 ov44691 => ?_)
        obtain ⟨b44692, rfl, mb44692, gb44692⟩ := okV_r ov44691
        have gb44692 : tag b44692 = 5 := tg_of gb44692
        refine lv_iload_n hx hb dX3_readHouse_183 rfl (lv_at hl 5 rfl) ?_
        refine lv_iload hx hb dX3_readHouse_184 (lv_at hl 1 rfl) ?_
        refine t_ist X hT mb44692 gb44692 rfl (by omega) (show (-2147483648) ≤ (z44667 : Int32).toInt ∧ (z44667 : Int32).toInt ≤ 2147483647 from (by omega)) dX3_readHouse_186 (fun F H locs hT v44693 h1v44693 h2v44693 => ?_)
        have pf0 := (h2v44693 _ _).trans pf0
        have pf1 := (h2v44693 _ _).trans pf1
        have pf2 := (h2v44693 _ _).trans pf2
        have pf3 := (h2v44693 _ _).trans pf3
        have pf4 := (h2v44693 _ _).trans pf4
        have pf5 := (h2v44693 _ _).trans pf5
        have pf6 := (h2v44693 _ _).trans pf6
        have hv44605 := (h2v44693 _ _).trans hv44605
        have hv44611 := (h2v44693 _ _).trans hv44611
        have hv44670 := (h2v44693 _ _).trans hv44670
        have hv44679 := (h2v44693 _ _).trans hv44679
        have hv44683 := (h2v44693 _ _).trans hv44683
        have hv44687 := (h2v44693 _ _).trans hv44687
        have hv44691 := (h2v44693 _ _).trans hv44691
        have hfr : ∀ b j : Nat, (tag b ≠ 18 ∨ j ≠ 10) → (tag b ≠ 24 ∨ j ≠ 2) → (tag b ≠ 24 ∨ j ≠ 3) → (tag b ≠ 24 ∨ j ≠ 4) → (tag b ≠ 24 ∨ j ≠ 5) → (tag b ≠ 24 ∨ j ≠ 6) → (tag b ≠ 24 ∨ j ≠ 7) → (tag b ≠ 25 ∨ j ≠ 3) → (tag b ≠ 25 ∨ j ≠ 4) → (tag b ≠ 25 ∨ j ≠ 12) → fld F b j = fld Fo b j := fun b j n18_10 n24_2 n24_3 n24_4 n24_5 n24_6 n24_7 n25_3 n25_4 n25_12 => (h2v44693 b j).trans (hfr b j n18_10 n24_2 n24_3 n24_4 n24_5 n24_6 n24_7 n25_3 n25_4 n25_12)
        have hrel := nsr_of (fun j => h1v44693 _ j (Or.inl (tne gx4 gb44692 (by decide)))) (fun j => h1v44693 _ j (Or.inl (tne gx5 gb44692 (by decide)))) hrel
        refine lv_aload_n hx hb dX3_readHouse_187 rfl (lv_at hl 6 rfl) ?_
        refine t_get (C := RX3) (T := TX3) (N := 13) X hT m0 g0 rfl rfl 2 (by decide) qw_162 inlX3 rfl dX3_readHouse_188 (fun v44694 hv44694 ov44694 => ?_)
        obtain rfl : v44694 = .ref x2 := hv44694.symm.trans pf2
        refine t_get (C := RX7) (T := TX7) (N := 7) X hT mx2 gx2 rfl rfl 4 (by decide) qw_377 inlX7 rfl dX3_readHouse_191 (fun v44695 hv44695 ov44695 => ?_)
        obtain ⟨b44696, rfl, mb44696, gb44696⟩ := okV_r ov44695
        have gb44696 : tag b44696 = 5 := tg_of gb44696
        refine lv_iload_n hx hb dX3_readHouse_194 rfl (lv_at hl 5 rfl) ?_
        refine lv_iload hx hb dX3_readHouse_195 (lv_at hl 0 rfl) ?_
        refine t_ist X hT mb44696 gb44696 rfl (by omega) (show (-2147483648) ≤ (z44669 : Int32).toInt ∧ (z44669 : Int32).toInt ≤ 2147483647 from (by omega)) dX3_readHouse_197 (fun F H locs hT v44697 h1v44697 h2v44697 => ?_)
        have pf0 := (h2v44697 _ _).trans pf0
        have pf1 := (h2v44697 _ _).trans pf1
        have pf2 := (h2v44697 _ _).trans pf2
        have pf3 := (h2v44697 _ _).trans pf3
        have pf4 := (h2v44697 _ _).trans pf4
        have pf5 := (h2v44697 _ _).trans pf5
        have pf6 := (h2v44697 _ _).trans pf6
        have hv44605 := (h2v44697 _ _).trans hv44605
        have hv44611 := (h2v44697 _ _).trans hv44611
        have hv44670 := (h2v44697 _ _).trans hv44670
        have hv44679 := (h2v44697 _ _).trans hv44679
        have hv44683 := (h2v44697 _ _).trans hv44683
        have hv44687 := (h2v44697 _ _).trans hv44687
        have hv44691 := (h2v44697 _ _).trans hv44691
        have hv44695 := (h2v44697 _ _).trans hv44695
        have hfr : ∀ b j : Nat, (tag b ≠ 18 ∨ j ≠ 10) → (tag b ≠ 24 ∨ j ≠ 2) → (tag b ≠ 24 ∨ j ≠ 3) → (tag b ≠ 24 ∨ j ≠ 4) → (tag b ≠ 24 ∨ j ≠ 5) → (tag b ≠ 24 ∨ j ≠ 6) → (tag b ≠ 24 ∨ j ≠ 7) → (tag b ≠ 25 ∨ j ≠ 3) → (tag b ≠ 25 ∨ j ≠ 4) → (tag b ≠ 25 ∨ j ≠ 12) → fld F b j = fld Fo b j := fun b j n18_10 n24_2 n24_3 n24_4 n24_5 n24_6 n24_7 n25_3 n25_4 n25_12 => (h2v44697 b j).trans (hfr b j n18_10 n24_2 n24_3 n24_4 n24_5 n24_6 n24_7 n25_3 n25_4 n25_12)
        have hrel := nsr_of (fun j => h1v44697 _ j (Or.inl (tne gx4 gb44696 (by decide)))) (fun j => h1v44697 _ j (Or.inl (tne gx5 gb44696 (by decide)))) hrel
        refine lv_aload_n hx hb dX3_readHouse_198 rfl (lv_at hl 6 rfl) ?_
        refine t_get (C := RX3) (T := TX3) (N := 13) X hT m0 g0 rfl rfl 1 (by decide) qw_161 inlX3 rfl dX3_readHouse_199 (fun v44698 hv44698 ov44698 => ?_)
        obtain rfl : v44698 = .ref x1 := hv44698.symm.trans pf1
        refine lv_dup hx hb dX3_readHouse_202 rfl ?_
        refine t_get (C := RX1) (T := TX1) (N := 20) X hT mx1 gx1 rfl rfl 10 (by decide) qw_172 inlX1 rfl dX3_readHouse_203 (fun v44699 hv44699 ov44699 => ?_)
        obtain rfl : v44699 = .int x6 := hv44699.symm.trans pf6
        refine lv_iconst (v := 1) hx hb dX3_readHouse_206 (by decide) ?_
        refine lv_iadd hx hb dX3_readHouse_207 ?_
        refine lv_topi (fun z44700 ez44700 => ?_)
        have hz44700 : z44700.toInt = x6.toInt + 1 := ar_add ez44700 (rfl : x6.toInt = x6.toInt) (by decide : (1 : Int32).toInt = 1) (by omega) (by omega)
        have rz44700 : 1 ≤ z44700.toInt ∧ z44700.toInt ≤ 4 := by omega
        refine t_put (C := RX1) (T := TX1) (N := 20) (v := .int z44700) X hT mx1 gx1 rfl tyX1 tyX1_ok nmX1 rfl 10 (by decide) qw_172 inlX1 rfl (by first | rfl | decide) (by first | rfl | decide) rfl (⟨_, rfl, (show 0 ≤ (z44700 : Int32).toInt from (by omega)), (show (z44700 : Int32).toInt ≤ 4 from (by omega))⟩) dX3_readHouse_208 (fun F H locs hT v44701 h1v44701 h2v44701 => ?_)
        have pf0 := (h1v44701 _ _ (Or.inr (by decide))).trans pf0
        have pf1 := (h1v44701 _ _ (Or.inr (by decide))).trans pf1
        have pf2 := (h1v44701 _ _ (Or.inr (by decide))).trans pf2
        have pf3 := (h1v44701 _ _ (Or.inr (by decide))).trans pf3
        have pf4 := (h1v44701 _ _ (Or.inl (tne g0 gx1 (by decide)))).trans pf4
        have pf5 := (h1v44701 _ _ (Or.inr (by decide))).trans pf5
        have hv44605 := (h1v44701 _ _ (Or.inr (by decide))).trans hv44605
        have hv44611 := (h1v44701 _ _ (Or.inr (by decide))).trans hv44611
        have hv44670 := (h1v44701 _ _ (Or.inr (by decide))).trans hv44670
        have hv44679 := (h1v44701 _ _ (Or.inr (by decide))).trans hv44679
        have hv44683 := (h1v44701 _ _ (Or.inr (by decide))).trans hv44683
        have hv44687 := (h1v44701 _ _ (Or.inr (by decide))).trans hv44687
        have hv44691 := (h1v44701 _ _ (Or.inr (by decide))).trans hv44691
        have hv44695 := (h1v44701 _ _ (Or.inr (by decide))).trans hv44695
        have v44697 := (h2v44701 _ _).trans v44697
        have hfr : ∀ b j : Nat, (tag b ≠ 18 ∨ j ≠ 10) → (tag b ≠ 24 ∨ j ≠ 2) → (tag b ≠ 24 ∨ j ≠ 3) → (tag b ≠ 24 ∨ j ≠ 4) → (tag b ≠ 24 ∨ j ≠ 5) → (tag b ≠ 24 ∨ j ≠ 6) → (tag b ≠ 24 ∨ j ≠ 7) → (tag b ≠ 25 ∨ j ≠ 3) → (tag b ≠ 25 ∨ j ≠ 4) → (tag b ≠ 25 ∨ j ≠ 12) → fld F b j = fld Fo b j := fun b j n18_10 n24_2 n24_3 n24_4 n24_5 n24_6 n24_7 n25_3 n25_4 n25_12 => (h1v44701 b j (fr_ne gx1 n18_10)).trans (hfr b j n18_10 n24_2 n24_3 n24_4 n24_5 n24_6 n24_7 n25_3 n25_4 n25_12)
        have hrel := nsr_of (fun j => h2v44701 _ j) (fun j => h2v44701 _ j) hrel
        exact t_vret hQ X hT ⟨hfr, hrel⟩ (Nat.le_of_ble_eq_true rfl) (Nat.le_of_ble_eq_true rfl) dX3_readHouse_211
