set_option maxHeartbeats 4000000 in
set_option maxRecDepth 100000 in
theorem kt122_X3_isLineTooMany (l : Launch) (G : KG) (tag : Nat → Nat) (L : List Nat) (F : Nat → va_E) (ho : okT G ttC tag L F) (p0 : Nat) (p1 : Int32) (x0 : Nat) (x1 : Nat) (x2 : Nat) (x3 : Nat) (x4 : Nat) (x5 : Nat) (m0 : p0 ∈ L) (g0 : tag p0 = 25) (h1 : 7 ≤ p1.toInt ∧ p1.toInt ≤ 7) (mx0 : x0 ∈ L) (gx0 : tag x0 = 24) (pf0 : fld F p0 0 = .ref x0) (mx1 : x1 ∈ L) (gx1 : tag x1 = 18) (pf1 : fld F p0 1 = .ref x1) (mx2 : x2 ∈ L) (gx2 : tag x2 = 19) (pf2 : fld F p0 2 = .ref x2) (mx3 : x3 ∈ L) (gx3 : tag x3 = 1) (pf3 : fld F x0 0 = .ref x3) (mx4 : x4 ∈ L) (gx4 : tag x4 = 14) (pf4 : fld F p0 10 = .ref x4) (mx5 : x5 ∈ L) (gx5 : tag x5 = 15) (pf5 : fld F p0 11 = .ref x5) : TMi l yX3_isLineTooMany cX3_isLineTooMany 2 (some .boolean) { frames := 0, cells := 0, slots := 0, locals := 0 } G ttC tag L F [.ref p0, .int p1] (fun r F1 => F1 = F ∧ (0 ≤ r.toInt ∧ r.toInt ≤ 1) ∧ (((1 ≤ r.toInt ∧ r.toInt ≤ 1)) ∨ ((∃ z : Int32, fld F1 x1 16 = .int z ∧ 0 ≤ z.toInt ∧ z.toInt ≤ 5)))) := by
  refine t_bodyi (y := yX3_isLineTooMany) (cd := cX3_isLineTooMany) (mL := 2) (rt := (some .boolean)) (rm := { frames := 0, cells := 0, slots := 0, locals := 0 }) (av := [.ref p0, .int p1]) (by decide) (Nat.le_of_ble_eq_true rfl) ho ?_
  intro p e s m args below meth c ls A Q hQ X hT hl
  have hx := X.1.1
  have hb := X.1.2.1
  have hl : lv_has ls 2 [(0, .ref p0), (1, .int p1)] := hl
  refine lv_iload_n hx hb dX3_isLineTooMany_0 rfl (lv_at hl 1 rfl) ?_
  by_cases c44973 : p1 = 2
  · have w44974 := cv_eq (rfl : p1.toInt = p1.toInt) (by decide : (2 : Int32).toInt = 2) c44973
    exfalso
    omega
  have w44975 := cv_ne (rfl : p1.toInt = p1.toInt) (by decide : (2 : Int32).toInt = 2) c44973
  by_cases c44976 : p1 = 3
  · have w44977 := cv_eq (rfl : p1.toInt = p1.toInt) (by decide : (3 : Int32).toInt = 3) c44976
    exfalso
    omega
  have w44978 := cv_ne (rfl : p1.toInt = p1.toInt) (by decide : (3 : Int32).toInt = 3) c44976
  by_cases c44979 : p1 = 4
  · have w44980 := cv_eq (rfl : p1.toInt = p1.toInt) (by decide : (4 : Int32).toInt = 4) c44979
    exfalso
    omega
  have w44981 := cv_ne (rfl : p1.toInt = p1.toInt) (by decide : (4 : Int32).toInt = 4) c44979
  by_cases c44982 : p1 = 5
  · have w44983 := cv_eq (rfl : p1.toInt = p1.toInt) (by decide : (5 : Int32).toInt = 5) c44982
    exfalso
    omega
  have w44984 := cv_ne (rfl : p1.toInt = p1.toInt) (by decide : (5 : Int32).toInt = 5) c44982
  by_cases c44985 : p1 = 6
  · have w44986 := cv_eq (rfl : p1.toInt = p1.toInt) (by decide : (6 : Int32).toInt = 6) c44985
    exfalso
    omega
  have w44987 := cv_ne (rfl : p1.toInt = p1.toInt) (by decide : (6 : Int32).toInt = 6) c44985
  by_cases c44988 : p1 = 7
  · have w44989 := cv_eq (rfl : p1.toInt = p1.toInt) (by decide : (7 : Int32).toInt = 7) c44988
    refine lv_tableIn (off := 110) (tgt := 111) hx hb dX3_isLineTooMany_1 (by rw [c44988]; decide) (by rw [c44988]; decide) (by rw [c44988]; decide) (by decide) ?_
    refine lv_aload_n hx hb dX3_isLineTooMany_111 rfl (lv_at hl 0 rfl) ?_
    refine t_get (C := RX3) (T := TX3) (N := 13) X hT m0 g0 rfl rfl 1 (by decide) qw_161 inlX3 rfl dX3_isLineTooMany_112 (fun v44990 hv44990 ov44990 => ?_)
    obtain rfl : v44990 = .ref x1 := hv44990.symm.trans pf1
    refine t_get (C := RX1) (T := TX1) (N := 20) X hT mx1 gx1 rfl rfl 16 (by decide) qw_304 inlX1 rfl dX3_isLineTooMany_115 (fun v44991 hv44991 ov44991 => ?_)
    obtain ⟨z44992, rfl, rz44992⟩ := okV_i ov44991
    refine lv_bipush (v := 6) hx hb dX3_isLineTooMany_118 (by decide) ?_
    refine lv_icmp_lt (tgt := 127) hx hb dX3_isLineTooMany_120 (by decide) (fun c44993 => ?_) (fun c44993 => ?_)
    · have w44994 := cv_lt (rfl : z44992.toInt = z44992.toInt) (by decide : (6 : Int32).toInt = 6) c44993
      refine lv_iconst (v := 0) hx hb dX3_isLineTooMany_127 (by decide) ?_
      exact t_zret hQ X hT (by decide) (⟨rfl, (by decide), (Or.inr (⟨_, hv44991, (by omega), (by omega)⟩))⟩) (Nat.le_of_ble_eq_true rfl) (Nat.le_of_ble_eq_true rfl) dX3_isLineTooMany_128
    · have w44995 := cv_nlt (rfl : z44992.toInt = z44992.toInt) (by decide : (6 : Int32).toInt = 6) c44993
      refine lv_iconst (v := 1) hx hb dX3_isLineTooMany_123 (by decide) ?_
      refine lv_goto (tgt := 128) hx hb dX3_isLineTooMany_124 (by decide) ?_
      exact t_zret hQ X hT (by decide) (⟨rfl, (by decide), (Or.inl (⟨(by decide), (by decide)⟩))⟩) (Nat.le_of_ble_eq_true rfl) (Nat.le_of_ble_eq_true rfl) dX3_isLineTooMany_128
  have w44996 := cv_ne (rfl : p1.toInt = p1.toInt) (by decide : (7 : Int32).toInt = 7) c44988
  exfalso
  omega
set_option maxHeartbeats 4000000 in
set_option maxRecDepth 100000 in
theorem kt123_X3_checkLine (l : Launch) (G : KG) (tag : Nat → Nat) (L : List Nat) (Fo : Nat → va_E) (ho : okT G ttC tag L Fo) (p0 : Nat) (p1 : Int32) (x0 : Nat) (x1 : Nat) (x2 : Nat) (x3 : Nat) (x4 : Nat) (x5 : Nat) (m0 : p0 ∈ L) (g0 : tag p0 = 25) (h1 : 7 ≤ p1.toInt ∧ p1.toInt ≤ 7) (mx0 : x0 ∈ L) (gx0 : tag x0 = 24) (pf0 : fld Fo p0 0 = .ref x0) (mx1 : x1 ∈ L) (gx1 : tag x1 = 18) (pf1 : fld Fo p0 1 = .ref x1) (mx2 : x2 ∈ L) (gx2 : tag x2 = 19) (pf2 : fld Fo p0 2 = .ref x2) (mx3 : x3 ∈ L) (gx3 : tag x3 = 1) (pf3 : fld Fo x0 0 = .ref x3) (mx4 : x4 ∈ L) (gx4 : tag x4 = 14) (pf4 : fld Fo p0 10 = .ref x4) (mx5 : x5 ∈ L) (gx5 : tag x5 = 15) (pf5 : fld Fo p0 11 = .ref x5) : TMv l yX3_checkLine cX3_checkLine 2 { frames := 1, cells := 0, slots := 0, locals := 22 } G ttC tag L Fo [.ref p0, .int p1] (fun F1 => ((∀ b j : Nat, (tag b ≠ 25 ∨ j ≠ 3) → (tag b ≠ 25 ∨ j ≠ 4) → fld F1 b j = fld Fo b j) ∧ EF tag F1 Fo) ∧ (((∃ z : Int32, fld F1 p0 3 = .int z ∧ 1 ≤ z.toInt ∧ z.toInt ≤ 7)) ∨ ((∃ z : Int32, fld F1 x1 16 = .int z ∧ 0 ≤ z.toInt ∧ z.toInt ≤ 5)))) := by
  refine t_bodyv (y := yX3_checkLine) (cd := cX3_checkLine) (mL := 2) (rm := { frames := 1, cells := 0, slots := 0, locals := 22 }) (av := [.ref p0, .int p1]) (by decide) (Nat.le_of_ble_eq_true rfl) ho ?_
  intro p e s m args below meth c ls A Q hQ X hT hl
  have hx := X.1.1
  have hb := X.1.2.1
  have hl : lv_has ls 2 [(0, .ref p0), (1, .int p1)] := hl
  obtain ⟨F, hFo⟩ : ∃ F : Nat → va_E, F = Fo := ⟨_, rfl⟩
  rw [← hFo] at hT pf0 pf1 pf2 pf3 pf4 pf5
  have hfr : (∀ b j : Nat, (tag b ≠ 25 ∨ j ≠ 3) → (tag b ≠ 25 ∨ j ≠ 4) → fld F b j = fld Fo b j) ∧ EF tag F Fo := by
    rw [hFo]
    exact ⟨by intros; rfl, fun _ _ _ => rfl⟩
  refine lv_aload_n hx hb dX3_checkLine_0 rfl (lv_at hl 0 rfl) ?_
  refine lv_iload_n hx hb dX3_checkLine_1 rfl (lv_at hl 1 rfl) ?_
  refine t_cVi (n := 1) (C := RX3) (T := TX3) (N := 13) (As := [.int p1]) (rest := []) X hT (kt109_X3_isLineAgain l G tag L F hT.2.2.2 p0 p1 m0 g0) m0 g0 rfl rfl qw_295 qw_296 qw_297 qw_28 qw_298 ⟨rfl, by decide +kernel, by decide +kernel, by decide +kernel⟩ ⟨Nat.le_of_ble_eq_true rfl, Nat.le_of_ble_eq_true rfl⟩ hl rfl rfl (Nat.le_of_ble_eq_true rfl) dX3_checkLine_2 ⟨Nat.le_of_ble_eq_true rfl, Nat.le_of_ble_eq_true rfl⟩ (fun z45467 F9 H locs hT hz45467 => ?_)
  obtain ⟨fz45467, hz45467⟩ := hz45467
  rw [fz45467] at hT
  refine lv_if_eq (tgt := 23) hx hb dX3_checkLine_5 (by decide) (fun c45468 => ?_) (fun c45468 => ?_)
  · have w45469 := cv_eq (rfl : z45467.toInt = z45467.toInt) (by decide : (0 : Int32).toInt = 0) c45468
    refine lv_aload_n hx hb dX3_checkLine_23 rfl (lv_at hl 0 rfl) ?_
    refine lv_iload_n hx hb dX3_checkLine_24 rfl (lv_at hl 1 rfl) ?_
    refine t_cVi (n := 1) (C := RX3) (T := TX3) (N := 13) (As := [.int p1]) (rest := []) X hT (kt122_X3_isLineTooMany l G tag L F hT.2.2.2 p0 p1 x0 x1 x2 x3 x4 x5 m0 g0 (by omega) mx0 gx0 pf0 mx1 gx1 pf1 mx2 gx2 pf2 mx3 gx3 pf3 mx4 gx4 pf4 mx5 gx5 pf5) m0 g0 rfl rfl qw_299 qw_300 qw_301 qw_28 qw_302 ⟨rfl, by decide +kernel, by decide +kernel, by decide +kernel⟩ ⟨Nat.le_of_ble_eq_true rfl, Nat.le_of_ble_eq_true rfl⟩ hl rfl rfl (Nat.le_of_ble_eq_true rfl) dX3_checkLine_25 ⟨Nat.le_of_ble_eq_true rfl, Nat.le_of_ble_eq_true rfl⟩ (fun z45470 F9 H locs hT hz45470 => ?_)
    obtain ⟨fz45470, hz45470, xz45470_0⟩ := hz45470
    rw [fz45470] at hT xz45470_0
    rcases xz45470_0 with xz45470_0 | xz45470_0
    · refine lv_if_eq (tgt := 46) hx hb dX3_checkLine_28 (by decide) (fun c45471 => ?_) (fun c45471 => ?_)
      · have w45472 := cv_eq (rfl : z45470.toInt = z45470.toInt) (by decide : (0 : Int32).toInt = 0) c45471
        exfalso
        omega
      · have w45473 := cv_ne (rfl : z45470.toInt = z45470.toInt) (by decide : (0 : Int32).toInt = 0) c45471
        refine lv_aload_n hx hb dX3_checkLine_31 rfl (lv_at hl 0 rfl) ?_
        refine lv_iconst (v := 5) hx hb dX3_checkLine_32 (by decide) ?_
        refine lv_aload_n hx hb dX3_checkLine_33 rfl (lv_at hl 0 rfl) ?_
        refine t_get (C := RX3) (T := TX3) (N := 13) X hT m0 g0 rfl rfl 0 (by decide) qw_73 inlX3 rfl dX3_checkLine_34 (fun v45474 hv45474 ov45474 => ?_)
        obtain rfl : v45474 = .ref x0 := hv45474.symm.trans pf0
        refine t_get (C := RX8) (T := TX8) (N := 8) X hT mx0 gx0 rfl rfl 4 (by decide) qw_227 inlX8 rfl dX3_checkLine_37 (fun v45475 hv45475 ov45475 => ?_)
        obtain ⟨z45476, rfl, rz45476⟩ := okV_i ov45475
        refine t_cVv (n := 2) (C := RX3) (T := TX3) (N := 13) (As := [.int 5, .int z45476]) (rest := []) X hT (kt111_X3_fail l G tag L F hT.2.2.2 p0 5 z45476 m0 g0 (by decide)) m0 g0 rfl rfl qw_287 qw_288 qw_289 qw_28 qw_290 ⟨rfl, by decide +kernel, by decide +kernel, by decide +kernel⟩ ⟨Nat.le_of_ble_eq_true rfl, Nat.le_of_ble_eq_true rfl⟩ hl rfl rfl (Nat.le_of_ble_eq_true rfl) dX3_checkLine_40 ⟨Nat.le_of_ble_eq_true rfl, Nat.le_of_ble_eq_true rfl⟩ (fun F H locs hT hz45477 => ?_)
        obtain ⟨yz45477, xz45477_0⟩ := hz45477
        have pf0 := (yz45477.1 _ 0 (Or.inr (by decide)) (Or.inr (by decide))).trans pf0
        have pf1 := (yz45477.1 _ 1 (Or.inr (by decide)) (Or.inr (by decide))).trans pf1
        have pf2 := (yz45477.1 _ 2 (Or.inr (by decide)) (Or.inr (by decide))).trans pf2
        have pf3 := (yz45477.1 _ 0 (Or.inr (by decide)) (Or.inr (by decide))).trans pf3
        have pf4 := (yz45477.1 _ 10 (Or.inr (by decide)) (Or.inr (by decide))).trans pf4
        have pf5 := (yz45477.1 _ 11 (Or.inr (by decide)) (Or.inr (by decide))).trans pf5
        have hv45475 := (yz45477.1 _ 4 (Or.inr (by decide)) (Or.inl (by rw [gx0]; decide))).trans hv45475
        have hfr : (∀ b j : Nat, (tag b ≠ 25 ∨ j ≠ 3) → (tag b ≠ 25 ∨ j ≠ 4) → fld F b j = fld Fo b j) ∧ EF tag F Fo := ⟨fun b j n25_3 n25_4 => (yz45477.1 b j n25_3 n25_4).trans (hfr.1 b j n25_3 n25_4), fun b j hb => (yz45477.2 b j hb).trans (hfr.2 b j hb)⟩
        obtain ⟨z45478, qz45478, rz45478⟩ := xz45477_0
        refine lv_goto (tgt := 85) hx hb dX3_checkLine_43 (by decide) ?_
        exact t_vret hQ X hT ⟨hfr, (Or.inl (⟨_, qz45478, (by omega), (by omega)⟩))⟩ (Nat.le_of_ble_eq_true rfl) (Nat.le_of_ble_eq_true rfl) dX3_checkLine_85
    · obtain ⟨z45479, qz45479, rz45479⟩ := xz45470_0
      refine lv_if_eq (tgt := 46) hx hb dX3_checkLine_28 (by decide) (fun c45480 => ?_) (fun c45480 => ?_)
      · have w45481 := cv_eq (rfl : z45470.toInt = z45470.toInt) (by decide : (0 : Int32).toInt = 0) c45480
        refine lv_iload_n hx hb dX3_checkLine_46 rfl (lv_at hl 1 rfl) ?_
        refine lv_if_eq (tgt := 57) hx hb dX3_checkLine_47 (by decide) (fun c45482 => ?_) (fun c45482 => ?_)
        · have w45483 := cv_eq (rfl : p1.toInt = p1.toInt) (by decide : (0 : Int32).toInt = 0) c45482
          exfalso
          omega
        · have w45484 := cv_ne (rfl : p1.toInt = p1.toInt) (by decide : (0 : Int32).toInt = 0) c45482
          refine lv_aload_n hx hb dX3_checkLine_50 rfl (lv_at hl 0 rfl) ?_
          refine t_get (C := RX3) (T := TX3) (N := 13) X hT m0 g0 rfl rfl 5 (by decide) qw_165 inlX3 rfl dX3_checkLine_51 (fun v45485 hv45485 ov45485 => ?_)
          obtain ⟨z45486, rfl, rz45486⟩ := okV_i ov45485
          refine lv_if_eq (tgt := 72) hx hb dX3_checkLine_54 (by decide) (fun c45487 => ?_) (fun c45487 => ?_)
          · have w45488 := cv_eq (rfl : z45486.toInt = z45486.toInt) (by decide : (0 : Int32).toInt = 0) c45487
            refine lv_aload_n hx hb dX3_checkLine_72 rfl (lv_at hl 0 rfl) ?_
            refine lv_bipush (v := 6) hx hb dX3_checkLine_73 (by decide) ?_
            refine lv_aload_n hx hb dX3_checkLine_75 rfl (lv_at hl 0 rfl) ?_
            refine t_get (C := RX3) (T := TX3) (N := 13) X hT m0 g0 rfl rfl 0 (by decide) qw_73 inlX3 rfl dX3_checkLine_76 (fun v45489 hv45489 ov45489 => ?_)
            obtain rfl : v45489 = .ref x0 := hv45489.symm.trans pf0
            refine t_get (C := RX8) (T := TX8) (N := 8) X hT mx0 gx0 rfl rfl 4 (by decide) qw_227 inlX8 rfl dX3_checkLine_79 (fun v45490 hv45490 ov45490 => ?_)
            obtain ⟨z45491, rfl, rz45491⟩ := okV_i ov45490
            refine t_cVv (n := 2) (C := RX3) (T := TX3) (N := 13) (As := [.int 6, .int z45491]) (rest := []) X hT (kt111_X3_fail l G tag L F hT.2.2.2 p0 6 z45491 m0 g0 (by decide)) m0 g0 rfl rfl qw_287 qw_288 qw_289 qw_28 qw_290 ⟨rfl, by decide +kernel, by decide +kernel, by decide +kernel⟩ ⟨Nat.le_of_ble_eq_true rfl, Nat.le_of_ble_eq_true rfl⟩ hl rfl rfl (Nat.le_of_ble_eq_true rfl) dX3_checkLine_82 ⟨Nat.le_of_ble_eq_true rfl, Nat.le_of_ble_eq_true rfl⟩ (fun F H locs hT hz45492 => ?_)
            obtain ⟨yz45492, xz45492_0⟩ := hz45492
            have pf0 := (yz45492.1 _ 0 (Or.inr (by decide)) (Or.inr (by decide))).trans pf0
            have pf1 := (yz45492.1 _ 1 (Or.inr (by decide)) (Or.inr (by decide))).trans pf1
            have pf2 := (yz45492.1 _ 2 (Or.inr (by decide)) (Or.inr (by decide))).trans pf2
            have pf3 := (yz45492.1 _ 0 (Or.inr (by decide)) (Or.inr (by decide))).trans pf3
            have pf4 := (yz45492.1 _ 10 (Or.inr (by decide)) (Or.inr (by decide))).trans pf4
            have pf5 := (yz45492.1 _ 11 (Or.inr (by decide)) (Or.inr (by decide))).trans pf5
            have qz45479 := (yz45492.1 _ 16 (Or.inr (by decide)) (Or.inr (by decide))).trans qz45479
            have hv45485 := (yz45492.1 _ 5 (Or.inr (by decide)) (Or.inr (by decide))).trans hv45485
            have hv45490 := (yz45492.1 _ 4 (Or.inr (by decide)) (Or.inl (by rw [gx0]; decide))).trans hv45490
            have hfr : (∀ b j : Nat, (tag b ≠ 25 ∨ j ≠ 3) → (tag b ≠ 25 ∨ j ≠ 4) → fld F b j = fld Fo b j) ∧ EF tag F Fo := ⟨fun b j n25_3 n25_4 => (yz45492.1 b j n25_3 n25_4).trans (hfr.1 b j n25_3 n25_4), fun b j hb => (yz45492.2 b j hb).trans (hfr.2 b j hb)⟩
            obtain ⟨z45493, qz45493, rz45493⟩ := xz45492_0
            exact t_vret hQ X hT ⟨hfr, (Or.inl (⟨_, qz45493, (by omega), (by omega)⟩))⟩ (Nat.le_of_ble_eq_true rfl) (Nat.le_of_ble_eq_true rfl) dX3_checkLine_85
          · have w45494 := cv_ne (rfl : z45486.toInt = z45486.toInt) (by decide : (0 : Int32).toInt = 0) c45487
            refine lv_iload_n hx hb dX3_checkLine_57 rfl (lv_at hl 1 rfl) ?_
            refine lv_iconst (v := 2) hx hb dX3_checkLine_58 (by decide) ?_
            refine lv_icmp_ne (tgt := 85) hx hb dX3_checkLine_59 (by decide) (fun c45495 => ?_) (fun c45495 => ?_)
            · have w45496 := cv_ne (rfl : p1.toInt = p1.toInt) (by decide : (2 : Int32).toInt = 2) c45495
              exact t_vret hQ X hT ⟨hfr, (Or.inr (⟨_, qz45479, (by omega), (by omega)⟩))⟩ (Nat.le_of_ble_eq_true rfl) (Nat.le_of_ble_eq_true rfl) dX3_checkLine_85
            · have w45497 := cv_eq (rfl : p1.toInt = p1.toInt) (by decide : (2 : Int32).toInt = 2) c45495
              exfalso
              omega
      · have w45498 := cv_ne (rfl : z45470.toInt = z45470.toInt) (by decide : (0 : Int32).toInt = 0) c45480
        refine lv_aload_n hx hb dX3_checkLine_31 rfl (lv_at hl 0 rfl) ?_
        refine lv_iconst (v := 5) hx hb dX3_checkLine_32 (by decide) ?_
        refine lv_aload_n hx hb dX3_checkLine_33 rfl (lv_at hl 0 rfl) ?_
        refine t_get (C := RX3) (T := TX3) (N := 13) X hT m0 g0 rfl rfl 0 (by decide) qw_73 inlX3 rfl dX3_checkLine_34 (fun v45499 hv45499 ov45499 => ?_)
        obtain rfl : v45499 = .ref x0 := hv45499.symm.trans pf0
        refine t_get (C := RX8) (T := TX8) (N := 8) X hT mx0 gx0 rfl rfl 4 (by decide) qw_227 inlX8 rfl dX3_checkLine_37 (fun v45500 hv45500 ov45500 => ?_)
        obtain ⟨z45501, rfl, rz45501⟩ := okV_i ov45500
        refine t_cVv (n := 2) (C := RX3) (T := TX3) (N := 13) (As := [.int 5, .int z45501]) (rest := []) X hT (kt111_X3_fail l G tag L F hT.2.2.2 p0 5 z45501 m0 g0 (by decide)) m0 g0 rfl rfl qw_287 qw_288 qw_289 qw_28 qw_290 ⟨rfl, by decide +kernel, by decide +kernel, by decide +kernel⟩ ⟨Nat.le_of_ble_eq_true rfl, Nat.le_of_ble_eq_true rfl⟩ hl rfl rfl (Nat.le_of_ble_eq_true rfl) dX3_checkLine_40 ⟨Nat.le_of_ble_eq_true rfl, Nat.le_of_ble_eq_true rfl⟩ (fun F H locs hT hz45502 => ?_)
        obtain ⟨yz45502, xz45502_0⟩ := hz45502
        have pf0 := (yz45502.1 _ 0 (Or.inr (by decide)) (Or.inr (by decide))).trans pf0
        have pf1 := (yz45502.1 _ 1 (Or.inr (by decide)) (Or.inr (by decide))).trans pf1
        have pf2 := (yz45502.1 _ 2 (Or.inr (by decide)) (Or.inr (by decide))).trans pf2
        have pf3 := (yz45502.1 _ 0 (Or.inr (by decide)) (Or.inr (by decide))).trans pf3
        have pf4 := (yz45502.1 _ 10 (Or.inr (by decide)) (Or.inr (by decide))).trans pf4
        have pf5 := (yz45502.1 _ 11 (Or.inr (by decide)) (Or.inr (by decide))).trans pf5
        have qz45479 := (yz45502.1 _ 16 (Or.inr (by decide)) (Or.inr (by decide))).trans qz45479
        have hv45500 := (yz45502.1 _ 4 (Or.inr (by decide)) (Or.inl (by rw [gx0]; decide))).trans hv45500
        have hfr : (∀ b j : Nat, (tag b ≠ 25 ∨ j ≠ 3) → (tag b ≠ 25 ∨ j ≠ 4) → fld F b j = fld Fo b j) ∧ EF tag F Fo := ⟨fun b j n25_3 n25_4 => (yz45502.1 b j n25_3 n25_4).trans (hfr.1 b j n25_3 n25_4), fun b j hb => (yz45502.2 b j hb).trans (hfr.2 b j hb)⟩
        obtain ⟨z45503, qz45503, rz45503⟩ := xz45502_0
        refine lv_goto (tgt := 85) hx hb dX3_checkLine_43 (by decide) ?_
        exact t_vret hQ X hT ⟨hfr, (Or.inl (⟨_, qz45503, (by omega), (by omega)⟩))⟩ (Nat.le_of_ble_eq_true rfl) (Nat.le_of_ble_eq_true rfl) dX3_checkLine_85
  · have w45504 := cv_ne (rfl : z45467.toInt = z45467.toInt) (by decide : (0 : Int32).toInt = 0) c45468
    refine lv_aload_n hx hb dX3_checkLine_8 rfl (lv_at hl 0 rfl) ?_
    refine lv_iconst (v := 3) hx hb dX3_checkLine_9 (by decide) ?_
    refine lv_aload_n hx hb dX3_checkLine_10 rfl (lv_at hl 0 rfl) ?_
    refine t_get (C := RX3) (T := TX3) (N := 13) X hT m0 g0 rfl rfl 0 (by decide) qw_73 inlX3 rfl dX3_checkLine_11 (fun v45505 hv45505 ov45505 => ?_)
    obtain rfl : v45505 = .ref x0 := hv45505.symm.trans pf0
    refine t_get (C := RX8) (T := TX8) (N := 8) X hT mx0 gx0 rfl rfl 4 (by decide) qw_227 inlX8 rfl dX3_checkLine_14 (fun v45506 hv45506 ov45506 => ?_)
    obtain ⟨z45507, rfl, rz45507⟩ := okV_i ov45506
    refine t_cVv (n := 2) (C := RX3) (T := TX3) (N := 13) (As := [.int 3, .int z45507]) (rest := []) X hT (kt111_X3_fail l G tag L F hT.2.2.2 p0 3 z45507 m0 g0 (by decide)) m0 g0 rfl rfl qw_287 qw_288 qw_289 qw_28 qw_290 ⟨rfl, by decide +kernel, by decide +kernel, by decide +kernel⟩ ⟨Nat.le_of_ble_eq_true rfl, Nat.le_of_ble_eq_true rfl⟩ hl rfl rfl (Nat.le_of_ble_eq_true rfl) dX3_checkLine_17 ⟨Nat.le_of_ble_eq_true rfl, Nat.le_of_ble_eq_true rfl⟩ (fun F H locs hT hz45508 => ?_)
    obtain ⟨yz45508, xz45508_0⟩ := hz45508
    have pf0 := (yz45508.1 _ 0 (Or.inr (by decide)) (Or.inr (by decide))).trans pf0
    have pf1 := (yz45508.1 _ 1 (Or.inr (by decide)) (Or.inr (by decide))).trans pf1
    have pf2 := (yz45508.1 _ 2 (Or.inr (by decide)) (Or.inr (by decide))).trans pf2
    have pf3 := (yz45508.1 _ 0 (Or.inr (by decide)) (Or.inr (by decide))).trans pf3
    have pf4 := (yz45508.1 _ 10 (Or.inr (by decide)) (Or.inr (by decide))).trans pf4
    have pf5 := (yz45508.1 _ 11 (Or.inr (by decide)) (Or.inr (by decide))).trans pf5
    have hv45506 := (yz45508.1 _ 4 (Or.inr (by decide)) (Or.inl (by rw [gx0]; decide))).trans hv45506
    have hfr : (∀ b j : Nat, (tag b ≠ 25 ∨ j ≠ 3) → (tag b ≠ 25 ∨ j ≠ 4) → fld F b j = fld Fo b j) ∧ EF tag F Fo := ⟨fun b j n25_3 n25_4 => (yz45508.1 b j n25_3 n25_4).trans (hfr.1 b j n25_3 n25_4), fun b j hb => (yz45508.2 b j hb).trans (hfr.2 b j hb)⟩
    obtain ⟨z45509, qz45509, rz45509⟩ := xz45508_0
    refine lv_goto (tgt := 85) hx hb dX3_checkLine_20 (by decide) ?_
    exact t_vret hQ X hT ⟨hfr, (Or.inl (⟨_, qz45509, (by omega), (by omega)⟩))⟩ (Nat.le_of_ble_eq_true rfl) (Nat.le_of_ble_eq_true rfl) dX3_checkLine_85
set_option maxHeartbeats 4000000 in
set_option maxRecDepth 100000 in
theorem kt124_X3_newName (l : Launch) (G : KG) (tag : Nat → Nat) (L : List Nat) (Fo : Nat → va_E) (ho : okT G ttC tag L Fo) (p0 : Nat) (p1 : Int32) (p2 : Int32) (x0 : Nat) (x1 : Nat) (x2 : Nat) (x3 : Nat) (x4 : Nat) (x5 : Nat) (m0 : p0 ∈ L) (g0 : tag p0 = 25) (h1 : 7 ≤ p1.toInt ∧ p1.toInt ≤ 7) (h2 : 0 ≤ p2.toInt ∧ p2.toInt ≤ 5) (mx0 : x0 ∈ L) (gx0 : tag x0 = 24) (pf0 : fld Fo p0 0 = .ref x0) (mx1 : x1 ∈ L) (gx1 : tag x1 = 18) (pf1 : fld Fo p0 1 = .ref x1) (mx2 : x2 ∈ L) (gx2 : tag x2 = 19) (pf2 : fld Fo p0 2 = .ref x2) (mx3 : x3 ∈ L) (gx3 : tag x3 = 1) (pf3 : fld Fo x0 0 = .ref x3) (mx4 : x4 ∈ L) (gx4 : tag x4 = 14) (pf4 : fld Fo p0 10 = .ref x4) (mx5 : x5 ∈ L) (gx5 : tag x5 = 15) (pf5 : fld Fo p0 11 = .ref x5) (hrel : NSR Fo x4 x5) : TMv l yX3_newName cX3_newName 3 { frames := 6, cells := 0, slots := 0, locals := 128 } G ttC tag L Fo [.ref p0, .int p1, .int p2] (fun F1 => (∀ b j : Nat, (tag b ≠ 24 ∨ j ≠ 2) → (tag b ≠ 24 ∨ j ≠ 3) → (tag b ≠ 24 ∨ j ≠ 4) → (tag b ≠ 24 ∨ j ≠ 5) → (tag b ≠ 24 ∨ j ≠ 6) → (tag b ≠ 24 ∨ j ≠ 7) → (tag b ≠ 25 ∨ j ≠ 3) → (tag b ≠ 25 ∨ j ≠ 4) → (tag b ≠ 25 ∨ j ≠ 12) → fld F1 b j = fld Fo b j) ∧ (NSR F1 x4 x5)) := by
  refine t_bodyv (y := yX3_newName) (cd := cX3_newName) (mL := 3) (rm := { frames := 6, cells := 0, slots := 0, locals := 128 }) (av := [.ref p0, .int p1, .int p2]) (by decide) (Nat.le_of_ble_eq_true rfl) ho ?_
  intro p e s m args below meth c ls A Q hQ X hT hl
  have hx := X.1.1
  have hb := X.1.2.1
  have hl : lv_has ls 3 [(0, .ref p0), (1, .int p1), (2, .int p2)] := hl
  obtain ⟨F, hFo⟩ : ∃ F : Nat → va_E, F = Fo := ⟨_, rfl⟩
  rw [← hFo] at hT pf0 pf1 pf2 pf3 pf4 pf5 hrel
  have hfr : ∀ b j : Nat, (tag b ≠ 24 ∨ j ≠ 2) → (tag b ≠ 24 ∨ j ≠ 3) → (tag b ≠ 24 ∨ j ≠ 4) → (tag b ≠ 24 ∨ j ≠ 5) → (tag b ≠ 24 ∨ j ≠ 6) → (tag b ≠ 24 ∨ j ≠ 7) → (tag b ≠ 25 ∨ j ≠ 3) → (tag b ≠ 25 ∨ j ≠ 4) → (tag b ≠ 25 ∨ j ≠ 12) → fld F b j = fld Fo b j := by
    rw [hFo]
    intros
    rfl
  have K51 : ∀  (F : Nat → va_E) (H : Heap) (locs : List Loc) (ls : Array Slot), TH G ttC A s tag L F H locs → (∀ b j : Nat, (tag b ≠ 24 ∨ j ≠ 2) → (tag b ≠ 24 ∨ j ≠ 3) → (tag b ≠ 24 ∨ j ≠ 4) → (tag b ≠ 24 ∨ j ≠ 5) → (tag b ≠ 24 ∨ j ≠ 6) → (tag b ≠ 24 ∨ j ≠ 7) → (tag b ≠ 25 ∨ j ≠ 3) → (tag b ≠ 25 ∨ j ≠ 4) → (tag b ≠ 25 ∨ j ≠ 12) → fld F b j = fld Fo b j) → NSR F x4 x5 → fld F p0 0 = .ref x0 → fld F p0 1 = .ref x1 → fld F p0 2 = .ref x2 → fld F x0 0 = .ref x3 → fld F p0 10 = .ref x4 → fld F p0 11 = .ref x5 → lv_has ls 3 [(0, .ref p0), (1, .int p1), (2, .int p2)] → W p l e { frames := 6, cells := 0, slots := 0, locals := 128 } s m args below meth c H locs 0 0 Q (F0 m 51 ls []) := by
    intro F H locs ls hT hfr hrel pf0 pf1 pf2 pf3 pf4 pf5 hl
    refine lv_aload_n hx hb dX3_newName_51 rfl (lv_at hl 0 rfl) ?_
    refine t_get (C := RX3) (T := TX3) (N := 13) X hT m0 g0 rfl rfl 3 (by decide) qw_163 inlX3 rfl dX3_newName_52 (fun v46356 hv46356 ov46356 => ?_)
    obtain ⟨z46357, rfl, rz46357⟩ := okV_i ov46356
    refine lv_if_ne (tgt := 67) hx hb dX3_newName_55 (by decide) (fun c46358 => ?_) (fun c46358 => ?_)
    · have w46359 := cv_ne (rfl : z46357.toInt = z46357.toInt) (by decide : (0 : Int32).toInt = 0) c46358
      exact t_vret hQ X hT ⟨hfr, hrel⟩ (Nat.le_of_ble_eq_true rfl) (Nat.le_of_ble_eq_true rfl) dX3_newName_67
    · have w46360 := cv_eq (rfl : z46357.toInt = z46357.toInt) (by decide : (0 : Int32).toInt = 0) c46358
      refine lv_aload_n hx hb dX3_newName_58 rfl (lv_at hl 0 rfl) ?_
      refine t_get (C := RX3) (T := TX3) (N := 13) X hT m0 g0 rfl rfl 12 (by decide) qw_169 inlX3 rfl dX3_newName_59 (fun v46361 hv46361 ov46361 => ?_)
      obtain ⟨z46362, rfl, rz46362⟩ := okV_i ov46361
      refine lv_bipush (v := 20) hx hb dX3_newName_62 (by decide) ?_
      refine lv_icmp_lt (tgt := 68) hx hb dX3_newName_64 (by decide) (fun c46363 => ?_) (fun c46363 => ?_)
      · have w46364 := cv_lt (rfl : z46362.toInt = z46362.toInt) (by decide : (20 : Int32).toInt = 20) c46363
        refine lv_aload_n hx hb dX3_newName_68 rfl (lv_at hl 0 rfl) ?_
        refine t_get (C := RX3) (T := TX3) (N := 13) X hT m0 g0 rfl rfl 9 (by decide) qw_74 inlX3 rfl dX3_newName_69 (fun v46365 hv46365 ov46365 => ?_)
        obtain ⟨b46366, rfl, mb46366, gb46366⟩ := okV_r ov46365
        have gb46366 : tag b46366 = 13 := tg_of gb46366
        refine lv_aload_n hx hb dX3_newName_72 rfl (lv_at hl 0 rfl) ?_
        refine t_get (C := RX3) (T := TX3) (N := 13) X hT m0 g0 rfl rfl 12 (by decide) qw_169 inlX3 rfl dX3_newName_73 (fun v46367 hv46367 ov46367 => ?_)
        obtain rfl : v46367 = .int z46362 := hv46367.symm.trans hv46361
        refine lv_aload_n hx hb dX3_newName_76 rfl (lv_at hl 0 rfl) ?_
        refine t_get (C := RX3) (T := TX3) (N := 13) X hT m0 g0 rfl rfl 0 (by decide) qw_73 inlX3 rfl dX3_newName_77 (fun v46368 hv46368 ov46368 => ?_)
        obtain rfl : v46368 = .ref x0 := hv46368.symm.trans pf0
        refine t_get (C := RX8) (T := TX8) (N := 8) X hT mx0 gx0 rfl rfl 7 (by decide) qw_360 inlX8 rfl dX3_newName_80 (fun v46369 hv46369 ov46369 => ?_)
        obtain ⟨z46370, rfl⟩ := ov46369
        refine t_lst X hT mb46366 gb46366 rfl (by omega) dX3_newName_83 (fun F H locs hT h1v46371 h2v46371 => ?_)
        have pf0 := (h2v46371 _ _).trans pf0
        have pf1 := (h2v46371 _ _).trans pf1
        have pf2 := (h2v46371 _ _).trans pf2
        have pf3 := (h2v46371 _ _).trans pf3
        have pf4 := (h2v46371 _ _).trans pf4
        have pf5 := (h2v46371 _ _).trans pf5
        have hv46356 := (h2v46371 _ _).trans hv46356
        have hv46361 := (h2v46371 _ _).trans hv46361
        have hv46365 := (h2v46371 _ _).trans hv46365
        have hfr : ∀ b j : Nat, (tag b ≠ 24 ∨ j ≠ 2) → (tag b ≠ 24 ∨ j ≠ 3) → (tag b ≠ 24 ∨ j ≠ 4) → (tag b ≠ 24 ∨ j ≠ 5) → (tag b ≠ 24 ∨ j ≠ 6) → (tag b ≠ 24 ∨ j ≠ 7) → (tag b ≠ 25 ∨ j ≠ 3) → (tag b ≠ 25 ∨ j ≠ 4) → (tag b ≠ 25 ∨ j ≠ 12) → fld F b j = fld Fo b j := fun b j n24_2 n24_3 n24_4 n24_5 n24_6 n24_7 n25_3 n25_4 n25_12 => (h2v46371 b j).trans (hfr b j n24_2 n24_3 n24_4 n24_5 n24_6 n24_7 n25_3 n25_4 n25_12)
        have hrel := nsr_of (fun j => h1v46371 _ j) (fun j => h1v46371 _ j) hrel
        refine lv_aload_n hx hb dX3_newName_84 rfl (lv_at hl 0 rfl) ?_
        refine t_get (C := RX3) (T := TX3) (N := 13) X hT m0 g0 rfl rfl 10 (by decide) qw_75 inlX3 rfl dX3_newName_85 (fun v46372 hv46372 ov46372 => ?_)
        obtain rfl : v46372 = .ref x4 := hv46372.symm.trans pf4
        refine lv_aload_n hx hb dX3_newName_88 rfl (lv_at hl 0 rfl) ?_
        refine t_get (C := RX3) (T := TX3) (N := 13) X hT m0 g0 rfl rfl 12 (by decide) qw_169 inlX3 rfl dX3_newName_89 (fun v46373 hv46373 ov46373 => ?_)
        obtain rfl : v46373 = .int z46362 := hv46373.symm.trans hv46361
        refine lv_iload_n hx hb dX3_newName_92 rfl (lv_at hl 1 rfl) ?_
        refine t_ist X hT mx4 gx4 rfl (by omega) (show (-2147483648) ≤ (p1 : Int32).toInt ∧ (p1 : Int32).toInt ≤ 2147483647 from (by omega)) dX3_newName_93 (fun F H locs hT v46374 h1v46374 h2v46374 => ?_)
        have pf0 := (h2v46374 _ _).trans pf0
        have pf1 := (h2v46374 _ _).trans pf1
        have pf2 := (h2v46374 _ _).trans pf2
        have pf3 := (h2v46374 _ _).trans pf3
        have pf4 := (h2v46374 _ _).trans pf4
        have pf5 := (h2v46374 _ _).trans pf5
        have hv46356 := (h2v46374 _ _).trans hv46356
        have hv46361 := (h2v46374 _ _).trans hv46361
        have hv46365 := (h2v46374 _ _).trans hv46365
        have hfr : ∀ b j : Nat, (tag b ≠ 24 ∨ j ≠ 2) → (tag b ≠ 24 ∨ j ≠ 3) → (tag b ≠ 24 ∨ j ≠ 4) → (tag b ≠ 24 ∨ j ≠ 5) → (tag b ≠ 24 ∨ j ≠ 6) → (tag b ≠ 24 ∨ j ≠ 7) → (tag b ≠ 25 ∨ j ≠ 3) → (tag b ≠ 25 ∨ j ≠ 4) → (tag b ≠ 25 ∨ j ≠ 12) → fld F b j = fld Fo b j := fun b j n24_2 n24_3 n24_4 n24_5 n24_6 n24_7 n25_3 n25_4 n25_12 => (h2v46374 b j).trans (hfr b j n24_2 n24_3 n24_4 n24_5 n24_6 n24_7 n25_3 n25_4 n25_12)
        have hrel := nsr_s hrel h1v46374 (tne gx5 gx4 (by decide))
        refine lv_aload_n hx hb dX3_newName_94 rfl (lv_at hl 0 rfl) ?_
        refine t_get (C := RX3) (T := TX3) (N := 13) X hT m0 g0 rfl rfl 11 (by decide) qw_76 inlX3 rfl dX3_newName_95 (fun v46375 hv46375 ov46375 => ?_)
        obtain rfl : v46375 = .ref x5 := hv46375.symm.trans pf5
        refine lv_aload_n hx hb dX3_newName_98 rfl (lv_at hl 0 rfl) ?_
        refine t_get (C := RX3) (T := TX3) (N := 13) X hT m0 g0 rfl rfl 12 (by decide) qw_169 inlX3 rfl dX3_newName_99 (fun v46376 hv46376 ov46376 => ?_)
        obtain rfl : v46376 = .int z46362 := hv46376.symm.trans hv46361
        refine lv_iload_n hx hb dX3_newName_102 rfl (lv_at hl 2 rfl) ?_
        refine t_ist X hT mx5 gx5 rfl (by omega) (show (-2147483648) ≤ (p2 : Int32).toInt ∧ (p2 : Int32).toInt ≤ 2147483647 from (by omega)) dX3_newName_103 (fun F H locs hT v46377 h1v46377 h2v46377 => ?_)
        have pf0 := (h2v46377 _ _).trans pf0
        have pf1 := (h2v46377 _ _).trans pf1
        have pf2 := (h2v46377 _ _).trans pf2
        have pf3 := (h2v46377 _ _).trans pf3
        have pf4 := (h2v46377 _ _).trans pf4
        have pf5 := (h2v46377 _ _).trans pf5
        have hv46356 := (h2v46377 _ _).trans hv46356
        have hv46361 := (h2v46377 _ _).trans hv46361
        have hv46365 := (h2v46377 _ _).trans hv46365
        have hfr : ∀ b j : Nat, (tag b ≠ 24 ∨ j ≠ 2) → (tag b ≠ 24 ∨ j ≠ 3) → (tag b ≠ 24 ∨ j ≠ 4) → (tag b ≠ 24 ∨ j ≠ 5) → (tag b ≠ 24 ∨ j ≠ 6) → (tag b ≠ 24 ∨ j ≠ 7) → (tag b ≠ 25 ∨ j ≠ 3) → (tag b ≠ 25 ∨ j ≠ 4) → (tag b ≠ 25 ∨ j ≠ 12) → fld F b j = fld Fo b j := fun b j n24_2 n24_3 n24_4 n24_5 n24_6 n24_7 n25_3 n25_4 n25_12 => (h2v46377 b j).trans (hfr b j n24_2 n24_3 n24_4 n24_5 n24_6 n24_7 n25_3 n25_4 n25_12)
        have hrel := nsr_n hrel v46374 h1v46377 v46377 (tne gx4 gx5 (by decide)) ⟨fun h9 => (by have h8 := congrArg Int32.toInt h9; rw [show ((4 : Int32).toInt = 4) from by decide] at h8; omega), fun h9 => ⟨(by omega), (by omega)⟩⟩
        refine lv_aload_n hx hb dX3_newName_104 rfl (lv_at hl 0 rfl) ?_
        refine lv_dup hx hb dX3_newName_105 rfl ?_
        refine t_get (C := RX3) (T := TX3) (N := 13) X hT m0 g0 rfl rfl 12 (by decide) qw_169 inlX3 rfl dX3_newName_106 (fun v46378 hv46378 ov46378 => ?_)
        obtain rfl : v46378 = .int z46362 := hv46378.symm.trans hv46361
        refine lv_iconst (v := 1) hx hb dX3_newName_109 (by decide) ?_
        refine lv_iadd hx hb dX3_newName_110 ?_
        refine lv_topi (fun z46379 ez46379 => ?_)
        have hz46379 : z46379.toInt = z46362.toInt + 1 := ar_add ez46379 (rfl : z46362.toInt = z46362.toInt) (by decide : (1 : Int32).toInt = 1) (by omega) (by omega)
        have rz46379 : 1 ≤ z46379.toInt ∧ z46379.toInt ≤ 20 := by omega
        refine t_put (C := RX3) (T := TX3) (N := 13) (v := .int z46379) X hT m0 g0 rfl tyX3 tyX3_ok nmX3 rfl 12 (by decide) qw_169 inlX3 rfl (by first | rfl | decide) (by first | rfl | decide) rfl (⟨_, rfl, (show 0 ≤ (z46379 : Int32).toInt from (by omega)), (show (z46379 : Int32).toInt ≤ 20 from (by omega))⟩) dX3_newName_111 (fun F H locs hT v46380 h1v46380 h2v46380 => ?_)
        have pf0 := (h1v46380 _ _ (Or.inr (by decide))).trans pf0
        have pf1 := (h1v46380 _ _ (Or.inr (by decide))).trans pf1
        have pf2 := (h1v46380 _ _ (Or.inr (by decide))).trans pf2
        have pf3 := (h1v46380 _ _ (Or.inr (by decide))).trans pf3
        have pf4 := (h1v46380 _ _ (Or.inr (by decide))).trans pf4
        have pf5 := (h1v46380 _ _ (Or.inr (by decide))).trans pf5
        have hv46356 := (h1v46380 _ _ (Or.inr (by decide))).trans hv46356
        have hv46365 := (h1v46380 _ _ (Or.inr (by decide))).trans hv46365
        have v46377 := (h2v46380 _ _).trans v46377
        have hfr : ∀ b j : Nat, (tag b ≠ 24 ∨ j ≠ 2) → (tag b ≠ 24 ∨ j ≠ 3) → (tag b ≠ 24 ∨ j ≠ 4) → (tag b ≠ 24 ∨ j ≠ 5) → (tag b ≠ 24 ∨ j ≠ 6) → (tag b ≠ 24 ∨ j ≠ 7) → (tag b ≠ 25 ∨ j ≠ 3) → (tag b ≠ 25 ∨ j ≠ 4) → (tag b ≠ 25 ∨ j ≠ 12) → fld F b j = fld Fo b j := fun b j n24_2 n24_3 n24_4 n24_5 n24_6 n24_7 n25_3 n25_4 n25_12 => (h1v46380 b j (fr_ne g0 n25_12)).trans (hfr b j n24_2 n24_3 n24_4 n24_5 n24_6 n24_7 n25_3 n25_4 n25_12)
        have hrel := nsr_of (fun j => h2v46380 _ j) (fun j => h2v46380 _ j) hrel
        refine lv_aload_n hx hb dX3_newName_114 rfl (lv_at hl 0 rfl) ?_
        refine t_get (C := RX3) (T := TX3) (N := 13) X hT m0 g0 rfl rfl 0 (by decide) qw_73 inlX3 rfl dX3_newName_115 (fun v46381 hv46381 ov46381 => ?_)
        obtain rfl : v46381 = .ref x0 := hv46381.symm.trans pf0
        refine t_cVv (n := 0) (C := RX8) (T := TX8) (N := 8) (As := []) (rest := []) X hT (kt98_X8_advance l G tag L F hT.2.2.2 x0 x3 mx0 gx0 mx3 gx3 pf3) mx0 gx0 rfl rfl qw_305 qw_197 qw_198 qw_72 qw_199 ⟨rfl, by decide +kernel, by decide +kernel, by decide +kernel⟩ ⟨Nat.le_of_ble_eq_true rfl, Nat.le_of_ble_eq_true rfl⟩ hl rfl rfl (Nat.le_of_ble_eq_true rfl) dX3_newName_118 ⟨Nat.le_of_ble_eq_true rfl, Nat.le_of_ble_eq_true rfl⟩ (fun F H locs hT hz46382 => ?_)
        have yz46382 := hz46382
        have pf0 := (yz46382.1 _ 0 (Or.inr (by decide)) (Or.inr (by decide)) (Or.inr (by decide)) (Or.inr (by decide)) (Or.inr (by decide)) (Or.inr (by decide))).trans pf0
        have pf1 := (yz46382.1 _ 1 (Or.inr (by decide)) (Or.inr (by decide)) (Or.inr (by decide)) (Or.inr (by decide)) (Or.inr (by decide)) (Or.inr (by decide))).trans pf1
        have pf2 := (yz46382.1 _ 2 (Or.inl (by rw [g0]; decide)) (Or.inr (by decide)) (Or.inr (by decide)) (Or.inr (by decide)) (Or.inr (by decide)) (Or.inr (by decide))).trans pf2
        have pf3 := (yz46382.1 _ 0 (Or.inr (by decide)) (Or.inr (by decide)) (Or.inr (by decide)) (Or.inr (by decide)) (Or.inr (by decide)) (Or.inr (by decide))).trans pf3
        have pf4 := (yz46382.1 _ 10 (Or.inr (by decide)) (Or.inr (by decide)) (Or.inr (by decide)) (Or.inr (by decide)) (Or.inr (by decide)) (Or.inr (by decide))).trans pf4
        have pf5 := (yz46382.1 _ 11 (Or.inr (by decide)) (Or.inr (by decide)) (Or.inr (by decide)) (Or.inr (by decide)) (Or.inr (by decide)) (Or.inr (by decide))).trans pf5
        have hv46356 := (yz46382.1 _ 3 (Or.inr (by decide)) (Or.inl (by rw [g0]; decide)) (Or.inr (by decide)) (Or.inr (by decide)) (Or.inr (by decide)) (Or.inr (by decide))).trans hv46356
        have hv46365 := (yz46382.1 _ 9 (Or.inr (by decide)) (Or.inr (by decide)) (Or.inr (by decide)) (Or.inr (by decide)) (Or.inr (by decide)) (Or.inr (by decide))).trans hv46365
        have v46377 := (yz46382.2 _ _ (Or.inr gx5)).trans v46377
        have v46380 := (yz46382.1 _ 12 (Or.inr (by decide)) (Or.inr (by decide)) (Or.inr (by decide)) (Or.inr (by decide)) (Or.inr (by decide)) (Or.inr (by decide))).trans v46380
        have hfr : ∀ b j : Nat, (tag b ≠ 24 ∨ j ≠ 2) → (tag b ≠ 24 ∨ j ≠ 3) → (tag b ≠ 24 ∨ j ≠ 4) → (tag b ≠ 24 ∨ j ≠ 5) → (tag b ≠ 24 ∨ j ≠ 6) → (tag b ≠ 24 ∨ j ≠ 7) → (tag b ≠ 25 ∨ j ≠ 3) → (tag b ≠ 25 ∨ j ≠ 4) → (tag b ≠ 25 ∨ j ≠ 12) → fld F b j = fld Fo b j := fun b j n24_2 n24_3 n24_4 n24_5 n24_6 n24_7 n25_3 n25_4 n25_12 => (yz46382.1 b j n24_2 n24_3 n24_4 n24_5 n24_6 n24_7).trans (hfr b j n24_2 n24_3 n24_4 n24_5 n24_6 n24_7 n25_3 n25_4 n25_12)
        have hrel := nsr_of (fun j => yz46382.2 _ j (Or.inl gx4)) (fun j => yz46382.2 _ j (Or.inr gx5)) hrel
        exact t_vret hQ X hT ⟨hfr, hrel⟩ (Nat.le_of_ble_eq_true rfl) (Nat.le_of_ble_eq_true rfl) dX3_newName_121
      · have w46383 := cv_nlt (rfl : z46362.toInt = z46362.toInt) (by decide : (20 : Int32).toInt = 20) c46363
        exact t_vret hQ X hT ⟨hfr, hrel⟩ (Nat.le_of_ble_eq_true rfl) (Nat.le_of_ble_eq_true rfl) dX3_newName_67
  have K31 : ∀  (F : Nat → va_E) (H : Heap) (locs : List Loc) (ls : Array Slot), TH G ttC A s tag L F H locs → (∀ b j : Nat, (tag b ≠ 24 ∨ j ≠ 2) → (tag b ≠ 24 ∨ j ≠ 3) → (tag b ≠ 24 ∨ j ≠ 4) → (tag b ≠ 24 ∨ j ≠ 5) → (tag b ≠ 24 ∨ j ≠ 6) → (tag b ≠ 24 ∨ j ≠ 7) → (tag b ≠ 25 ∨ j ≠ 3) → (tag b ≠ 25 ∨ j ≠ 4) → (tag b ≠ 25 ∨ j ≠ 12) → fld F b j = fld Fo b j) → NSR F x4 x5 → fld F p0 0 = .ref x0 → fld F p0 1 = .ref x1 → fld F p0 2 = .ref x2 → fld F x0 0 = .ref x3 → fld F p0 10 = .ref x4 → fld F p0 11 = .ref x5 → lv_has ls 3 [(0, .ref p0), (1, .int p1), (2, .int p2)] → W p l e { frames := 6, cells := 0, slots := 0, locals := 128 } s m args below meth c H locs 0 0 Q (F0 m 31 ls []) := by
    intro F H locs ls hT hfr hrel pf0 pf1 pf2 pf3 pf4 pf5 hl
    refine lv_aload_n hx hb dX3_newName_31 rfl (lv_at hl 0 rfl) ?_
    refine t_cVi (n := 0) (C := RX3) (T := TX3) (N := 13) (As := []) (rest := []) X hT (kt113_X3_findName l G tag L F hT.2.2.2 p0 x0 x1 x2 x3 x4 x5 m0 g0 mx0 gx0 pf0 mx1 gx1 pf1 mx2 gx2 pf2 mx3 gx3 pf3 mx4 gx4 pf4 mx5 gx5 pf5) m0 g0 rfl rfl qw_361 qw_362 qw_363 qw_28 qw_364 ⟨rfl, by decide +kernel, by decide +kernel, by decide +kernel⟩ ⟨Nat.le_of_ble_eq_true rfl, Nat.le_of_ble_eq_true rfl⟩ hl rfl rfl (Nat.le_of_ble_eq_true rfl) dX3_newName_32 ⟨Nat.le_of_ble_eq_true rfl, Nat.le_of_ble_eq_true rfl⟩ (fun z46384 F9 H locs hT hz46384 => ?_)
    obtain ⟨fz46384, hz46384⟩ := hz46384
    rw [fz46384] at hT
    refine lv_iconst (v := (-1)) hx hb dX3_newName_35 (by decide) ?_
    refine lv_icmp_eq (tgt := 51) hx hb dX3_newName_36 (by decide) (fun c46385 => ?_) (fun c46385 => ?_)
    · have w46386 := cv_eq (rfl : z46384.toInt = z46384.toInt) (by decide : ((-1) : Int32).toInt = (-1)) c46385
      exact K51  _ _ _ _  hT hfr hrel pf0 pf1 pf2 pf3 pf4 pf5 (lv_sub hl [0, 1, 2] rfl)
    · have w46387 := cv_ne (rfl : z46384.toInt = z46384.toInt) (by decide : ((-1) : Int32).toInt = (-1)) c46385
      refine lv_aload_n hx hb dX3_newName_39 rfl (lv_at hl 0 rfl) ?_
      refine lv_iconst (v := 3) hx hb dX3_newName_40 (by decide) ?_
      refine lv_aload_n hx hb dX3_newName_41 rfl (lv_at hl 0 rfl) ?_
      refine t_get (C := RX3) (T := TX3) (N := 13) X hT m0 g0 rfl rfl 0 (by decide) qw_73 inlX3 rfl dX3_newName_42 (fun v46388 hv46388 ov46388 => ?_)
      obtain rfl : v46388 = .ref x0 := hv46388.symm.trans pf0
      refine t_get (C := RX8) (T := TX8) (N := 8) X hT mx0 gx0 rfl rfl 4 (by decide) qw_227 inlX8 rfl dX3_newName_45 (fun v46389 hv46389 ov46389 => ?_)
      obtain ⟨z46390, rfl, rz46390⟩ := okV_i ov46389
      refine t_cVv (n := 2) (C := RX3) (T := TX3) (N := 13) (As := [.int 3, .int z46390]) (rest := []) X hT (kt111_X3_fail l G tag L F hT.2.2.2 p0 3 z46390 m0 g0 (by decide)) m0 g0 rfl rfl qw_287 qw_288 qw_289 qw_28 qw_290 ⟨rfl, by decide +kernel, by decide +kernel, by decide +kernel⟩ ⟨Nat.le_of_ble_eq_true rfl, Nat.le_of_ble_eq_true rfl⟩ hl rfl rfl (Nat.le_of_ble_eq_true rfl) dX3_newName_48 ⟨Nat.le_of_ble_eq_true rfl, Nat.le_of_ble_eq_true rfl⟩ (fun F H locs hT hz46391 => ?_)
      obtain ⟨yz46391, xz46391_0⟩ := hz46391
      have pf0 := (yz46391.1 _ 0 (Or.inr (by decide)) (Or.inr (by decide))).trans pf0
      have pf1 := (yz46391.1 _ 1 (Or.inr (by decide)) (Or.inr (by decide))).trans pf1
      have pf2 := (yz46391.1 _ 2 (Or.inr (by decide)) (Or.inr (by decide))).trans pf2
      have pf3 := (yz46391.1 _ 0 (Or.inr (by decide)) (Or.inr (by decide))).trans pf3
      have pf4 := (yz46391.1 _ 10 (Or.inr (by decide)) (Or.inr (by decide))).trans pf4
      have pf5 := (yz46391.1 _ 11 (Or.inr (by decide)) (Or.inr (by decide))).trans pf5
      have hv46389 := (yz46391.1 _ 4 (Or.inr (by decide)) (Or.inl (by rw [gx0]; decide))).trans hv46389
      have hfr : ∀ b j : Nat, (tag b ≠ 24 ∨ j ≠ 2) → (tag b ≠ 24 ∨ j ≠ 3) → (tag b ≠ 24 ∨ j ≠ 4) → (tag b ≠ 24 ∨ j ≠ 5) → (tag b ≠ 24 ∨ j ≠ 6) → (tag b ≠ 24 ∨ j ≠ 7) → (tag b ≠ 25 ∨ j ≠ 3) → (tag b ≠ 25 ∨ j ≠ 4) → (tag b ≠ 25 ∨ j ≠ 12) → fld F b j = fld Fo b j := fun b j n24_2 n24_3 n24_4 n24_5 n24_6 n24_7 n25_3 n25_4 n25_12 => (yz46391.1 b j n25_3 n25_4).trans (hfr b j n24_2 n24_3 n24_4 n24_5 n24_6 n24_7 n25_3 n25_4 n25_12)
      have hrel := nsr_of (fun j => yz46391.2 _ j (Or.inl gx4)) (fun j => yz46391.2 _ j (Or.inr gx5)) hrel
      obtain ⟨z46392, qz46392, rz46392⟩ := xz46391_0
      exact K51  _ _ _ _  hT hfr hrel pf0 pf1 pf2 pf3 pf4 pf5 (lv_sub hl [0, 1, 2] rfl)
  have K19 : ∀  (F : Nat → va_E) (H : Heap) (locs : List Loc) (ls : Array Slot), TH G ttC A s tag L F H locs → (∀ b j : Nat, (tag b ≠ 24 ∨ j ≠ 2) → (tag b ≠ 24 ∨ j ≠ 3) → (tag b ≠ 24 ∨ j ≠ 4) → (tag b ≠ 24 ∨ j ≠ 5) → (tag b ≠ 24 ∨ j ≠ 6) → (tag b ≠ 24 ∨ j ≠ 7) → (tag b ≠ 25 ∨ j ≠ 3) → (tag b ≠ 25 ∨ j ≠ 4) → (tag b ≠ 25 ∨ j ≠ 12) → fld F b j = fld Fo b j) → NSR F x4 x5 → fld F p0 0 = .ref x0 → fld F p0 1 = .ref x1 → fld F p0 2 = .ref x2 → fld F x0 0 = .ref x3 → fld F p0 10 = .ref x4 → fld F p0 11 = .ref x5 → lv_has ls 3 [(0, .ref p0), (1, .int p1), (2, .int p2)] → W p l e { frames := 6, cells := 0, slots := 0, locals := 128 } s m args below meth c H locs 0 0 Q (F0 m 19 ls []) := by
    intro F H locs ls hT hfr hrel pf0 pf1 pf2 pf3 pf4 pf5 hl
    refine lv_aload_n hx hb dX3_newName_19 rfl (lv_at hl 0 rfl) ?_
    refine lv_iconst (v := 1) hx hb dX3_newName_20 (by decide) ?_
    refine lv_aload_n hx hb dX3_newName_21 rfl (lv_at hl 0 rfl) ?_
    refine t_get (C := RX3) (T := TX3) (N := 13) X hT m0 g0 rfl rfl 0 (by decide) qw_73 inlX3 rfl dX3_newName_22 (fun v46393 hv46393 ov46393 => ?_)
    obtain rfl : v46393 = .ref x0 := hv46393.symm.trans pf0
    refine t_get (C := RX8) (T := TX8) (N := 8) X hT mx0 gx0 rfl rfl 4 (by decide) qw_227 inlX8 rfl dX3_newName_25 (fun v46394 hv46394 ov46394 => ?_)
    obtain ⟨z46395, rfl, rz46395⟩ := okV_i ov46394
    refine t_cVv (n := 2) (C := RX3) (T := TX3) (N := 13) (As := [.int 1, .int z46395]) (rest := []) X hT (kt111_X3_fail l G tag L F hT.2.2.2 p0 1 z46395 m0 g0 (by decide)) m0 g0 rfl rfl qw_287 qw_288 qw_289 qw_28 qw_290 ⟨rfl, by decide +kernel, by decide +kernel, by decide +kernel⟩ ⟨Nat.le_of_ble_eq_true rfl, Nat.le_of_ble_eq_true rfl⟩ hl rfl rfl (Nat.le_of_ble_eq_true rfl) dX3_newName_28 ⟨Nat.le_of_ble_eq_true rfl, Nat.le_of_ble_eq_true rfl⟩ (fun F H locs hT hz46396 => ?_)
    obtain ⟨yz46396, xz46396_0⟩ := hz46396
    have pf0 := (yz46396.1 _ 0 (Or.inr (by decide)) (Or.inr (by decide))).trans pf0
    have pf1 := (yz46396.1 _ 1 (Or.inr (by decide)) (Or.inr (by decide))).trans pf1
    have pf2 := (yz46396.1 _ 2 (Or.inr (by decide)) (Or.inr (by decide))).trans pf2
    have pf3 := (yz46396.1 _ 0 (Or.inr (by decide)) (Or.inr (by decide))).trans pf3
    have pf4 := (yz46396.1 _ 10 (Or.inr (by decide)) (Or.inr (by decide))).trans pf4
    have pf5 := (yz46396.1 _ 11 (Or.inr (by decide)) (Or.inr (by decide))).trans pf5
    have hv46394 := (yz46396.1 _ 4 (Or.inr (by decide)) (Or.inl (by rw [gx0]; decide))).trans hv46394
    have hfr : ∀ b j : Nat, (tag b ≠ 24 ∨ j ≠ 2) → (tag b ≠ 24 ∨ j ≠ 3) → (tag b ≠ 24 ∨ j ≠ 4) → (tag b ≠ 24 ∨ j ≠ 5) → (tag b ≠ 24 ∨ j ≠ 6) → (tag b ≠ 24 ∨ j ≠ 7) → (tag b ≠ 25 ∨ j ≠ 3) → (tag b ≠ 25 ∨ j ≠ 4) → (tag b ≠ 25 ∨ j ≠ 12) → fld F b j = fld Fo b j := fun b j n24_2 n24_3 n24_4 n24_5 n24_6 n24_7 n25_3 n25_4 n25_12 => (yz46396.1 b j n25_3 n25_4).trans (hfr b j n24_2 n24_3 n24_4 n24_5 n24_6 n24_7 n25_3 n25_4 n25_12)
    have hrel := nsr_of (fun j => yz46396.2 _ j (Or.inl gx4)) (fun j => yz46396.2 _ j (Or.inr gx5)) hrel
    obtain ⟨z46397, qz46397, rz46397⟩ := xz46396_0
    exact K31  _ _ _ _  hT hfr hrel pf0 pf1 pf2 pf3 pf4 pf5 (lv_sub hl [0, 1, 2] rfl)
  refine lv_aload_n hx hb dX3_newName_0 rfl (lv_at hl 0 rfl) ?_
  refine t_get (C := RX3) (T := TX3) (N := 13) X hT m0 g0 rfl rfl 0 (by decide) qw_73 inlX3 rfl dX3_newName_1 (fun v46398 hv46398 ov46398 => ?_)
  obtain rfl : v46398 = .ref x0 := hv46398.symm.trans pf0
  refine t_get (C := RX8) (T := TX8) (N := 8) X hT mx0 gx0 rfl rfl 3 (by decide) qw_170 inlX8 rfl dX3_newName_4 (fun v46399 hv46399 ov46399 => ?_)
  obtain ⟨z46400, rfl, rz46400⟩ := okV_i ov46399
  refine lv_iconst (v := 1) hx hb dX3_newName_7 (by decide) ?_
  refine lv_icmp_ne (tgt := 19) hx hb dX3_newName_8 (by decide) (fun c46401 => ?_) (fun c46401 => ?_)
  · have w46402 := cv_ne (rfl : z46400.toInt = z46400.toInt) (by decide : (1 : Int32).toInt = 1) c46401
    exact K19  _ _ _ _  hT hfr hrel pf0 pf1 pf2 pf3 pf4 pf5 (lv_sub hl [0, 1, 2] rfl)
  · have w46403 := cv_eq (rfl : z46400.toInt = z46400.toInt) (by decide : (1 : Int32).toInt = 1) c46401
    refine lv_aload_n hx hb dX3_newName_11 rfl (lv_at hl 0 rfl) ?_
    refine t_cVi (n := 0) (C := RX3) (T := TX3) (N := 13) (As := []) (rest := []) X hT (kt108_X3_lineSort l G tag L F hT.2.2.2 p0 x0 x1 x2 x3 x4 x5 m0 g0 mx0 gx0 pf0 mx1 gx1 pf1 mx2 gx2 pf2 mx3 gx3 pf3 mx4 gx4 pf4 mx5 gx5 pf5) m0 g0 rfl rfl qw_230 qw_231 qw_232 qw_28 qw_233 ⟨rfl, by decide +kernel, by decide +kernel, by decide +kernel⟩ ⟨Nat.le_of_ble_eq_true rfl, Nat.le_of_ble_eq_true rfl⟩ hl rfl rfl (Nat.le_of_ble_eq_true rfl) dX3_newName_12 ⟨Nat.le_of_ble_eq_true rfl, Nat.le_of_ble_eq_true rfl⟩ (fun z46404 F9 H locs hT hz46404 => ?_)
    obtain ⟨fz46404, hz46404⟩ := hz46404
    rw [fz46404] at hT
    refine lv_iconst (v := (-1)) hx hb dX3_newName_15 (by decide) ?_
    refine lv_icmp_eq (tgt := 31) hx hb dX3_newName_16 (by decide) (fun c46405 => ?_) (fun c46405 => ?_)
    · have w46406 := cv_eq (rfl : z46404.toInt = z46404.toInt) (by decide : ((-1) : Int32).toInt = (-1)) c46405
      exact K31  _ _ _ _  hT hfr hrel pf0 pf1 pf2 pf3 pf4 pf5 (lv_sub hl [0, 1, 2] rfl)
    · have w46407 := cv_ne (rfl : z46404.toInt = z46404.toInt) (by decide : ((-1) : Int32).toInt = (-1)) c46405
      exact K19  _ _ _ _  hT hfr hrel pf0 pf1 pf2 pf3 pf4 pf5 (lv_sub hl [0, 1, 2] rfl)
set_option maxHeartbeats 4000000 in
set_option maxRecDepth 100000 in
theorem kt125_X3_readWall (l : Launch) (G : KG) (tag : Nat → Nat) (L : List Nat) (Fo : Nat → va_E) (ho : okT G ttC tag L Fo) (p0 : Nat) (x0 : Nat) (x1 : Nat) (x2 : Nat) (x3 : Nat) (x4 : Nat) (x5 : Nat) (x6 : Int32) (m0 : p0 ∈ L) (g0 : tag p0 = 25) (mx0 : x0 ∈ L) (gx0 : tag x0 = 24) (pf0 : fld Fo p0 0 = .ref x0) (mx1 : x1 ∈ L) (gx1 : tag x1 = 18) (pf1 : fld Fo p0 1 = .ref x1) (mx2 : x2 ∈ L) (gx2 : tag x2 = 19) (pf2 : fld Fo p0 2 = .ref x2) (mx3 : x3 ∈ L) (gx3 : tag x3 = 1) (pf3 : fld Fo x0 0 = .ref x3) (mx4 : x4 ∈ L) (gx4 : tag x4 = 14) (pf4 : fld Fo p0 10 = .ref x4) (mx5 : x5 ∈ L) (gx5 : tag x5 = 15) (pf5 : fld Fo p0 11 = .ref x5) (hx6 : 0 ≤ x6.toInt ∧ x6.toInt ≤ 5) (pf6 : fld Fo x1 16 = .int x6) (hrel : NSR Fo x4 x5) : TMv l yX3_readWall cX3_readWall 1 { frames := 7, cells := 0, slots := 0, locals := 150 } G ttC tag L Fo [.ref p0] (fun F1 => (∀ b j : Nat, (tag b ≠ 18 ∨ j ≠ 16) → (tag b ≠ 24 ∨ j ≠ 2) → (tag b ≠ 24 ∨ j ≠ 3) → (tag b ≠ 24 ∨ j ≠ 4) → (tag b ≠ 24 ∨ j ≠ 5) → (tag b ≠ 24 ∨ j ≠ 6) → (tag b ≠ 24 ∨ j ≠ 7) → (tag b ≠ 25 ∨ j ≠ 3) → (tag b ≠ 25 ∨ j ≠ 4) → (tag b ≠ 25 ∨ j ≠ 12) → fld F1 b j = fld Fo b j) ∧ (NSR F1 x4 x5)) := by
  refine t_bodyv (y := yX3_readWall) (cd := cX3_readWall) (mL := 1) (rm := { frames := 7, cells := 0, slots := 0, locals := 150 }) (av := [.ref p0]) (by decide) (Nat.le_of_ble_eq_true rfl) ho ?_
  intro p e s m args below meth c ls A Q hQ X hT hl
  have hx := X.1.1
  have hb := X.1.2.1
  have hl : lv_has ls 1 [(0, .ref p0)] := hl
  obtain ⟨F, hFo⟩ : ∃ F : Nat → va_E, F = Fo := ⟨_, rfl⟩
  rw [← hFo] at hT pf0 pf1 pf2 pf3 pf4 pf5 pf6 hrel
  have hfr : ∀ b j : Nat, (tag b ≠ 18 ∨ j ≠ 16) → (tag b ≠ 24 ∨ j ≠ 2) → (tag b ≠ 24 ∨ j ≠ 3) → (tag b ≠ 24 ∨ j ≠ 4) → (tag b ≠ 24 ∨ j ≠ 5) → (tag b ≠ 24 ∨ j ≠ 6) → (tag b ≠ 24 ∨ j ≠ 7) → (tag b ≠ 25 ∨ j ≠ 3) → (tag b ≠ 25 ∨ j ≠ 4) → (tag b ≠ 25 ∨ j ≠ 12) → fld F b j = fld Fo b j := by
    rw [hFo]
    intros
    rfl
  refine lv_aload_n hx hb dX3_readWall_0 rfl (lv_at hl 0 rfl) ?_
  refine lv_bipush (v := 7) hx hb dX3_readWall_1 (by decide) ?_
  refine lv_aload_n hx hb dX3_readWall_3 rfl (lv_at hl 0 rfl) ?_
  refine t_get (C := RX3) (T := TX3) (N := 13) X hT m0 g0 rfl rfl 1 (by decide) qw_161 inlX3 rfl dX3_readWall_4 (fun v46483 hv46483 ov46483 => ?_)
  obtain rfl : v46483 = .ref x1 := hv46483.symm.trans pf1
  refine t_get (C := RX1) (T := TX1) (N := 20) X hT mx1 gx1 rfl rfl 16 (by decide) qw_304 inlX1 rfl dX3_readWall_7 (fun v46484 hv46484 ov46484 => ?_)
  obtain rfl : v46484 = .int x6 := hv46484.symm.trans pf6
  refine t_cVv (n := 2) (C := RX3) (T := TX3) (N := 13) (As := [.int 7, .int x6]) (rest := []) X hT (kt124_X3_newName l G tag L F hT.2.2.2 p0 7 x6 x0 x1 x2 x3 x4 x5 m0 g0 (by decide) (by omega) mx0 gx0 pf0 mx1 gx1 pf1 mx2 gx2 pf2 mx3 gx3 pf3 mx4 gx4 pf4 mx5 gx5 pf5 hrel) m0 g0 rfl rfl qw_356 qw_357 qw_358 qw_28 qw_359 ⟨rfl, by decide +kernel, by decide +kernel, by decide +kernel⟩ ⟨Nat.le_of_ble_eq_true rfl, Nat.le_of_ble_eq_true rfl⟩ hl rfl rfl (Nat.le_of_ble_eq_true rfl) dX3_readWall_10 ⟨Nat.le_of_ble_eq_true rfl, Nat.le_of_ble_eq_true rfl⟩ (fun F H locs hT hz46485 => ?_)
  obtain ⟨yz46485, hrel⟩ := hz46485
  have pf0 := (yz46485 _ 0 (Or.inr (by decide)) (Or.inr (by decide)) (Or.inr (by decide)) (Or.inr (by decide)) (Or.inr (by decide)) (Or.inr (by decide)) (Or.inr (by decide)) (Or.inr (by decide)) (Or.inr (by decide))).trans pf0
  have pf1 := (yz46485 _ 1 (Or.inr (by decide)) (Or.inr (by decide)) (Or.inr (by decide)) (Or.inr (by decide)) (Or.inr (by decide)) (Or.inr (by decide)) (Or.inr (by decide)) (Or.inr (by decide)) (Or.inr (by decide))).trans pf1
  have pf2 := (yz46485 _ 2 (Or.inl (by rw [g0]; decide)) (Or.inr (by decide)) (Or.inr (by decide)) (Or.inr (by decide)) (Or.inr (by decide)) (Or.inr (by decide)) (Or.inr (by decide)) (Or.inr (by decide)) (Or.inr (by decide))).trans pf2
  have pf3 := (yz46485 _ 0 (Or.inr (by decide)) (Or.inr (by decide)) (Or.inr (by decide)) (Or.inr (by decide)) (Or.inr (by decide)) (Or.inr (by decide)) (Or.inr (by decide)) (Or.inr (by decide)) (Or.inr (by decide))).trans pf3
  have pf4 := (yz46485 _ 10 (Or.inr (by decide)) (Or.inr (by decide)) (Or.inr (by decide)) (Or.inr (by decide)) (Or.inr (by decide)) (Or.inr (by decide)) (Or.inr (by decide)) (Or.inr (by decide)) (Or.inr (by decide))).trans pf4
  have pf5 := (yz46485 _ 11 (Or.inr (by decide)) (Or.inr (by decide)) (Or.inr (by decide)) (Or.inr (by decide)) (Or.inr (by decide)) (Or.inr (by decide)) (Or.inr (by decide)) (Or.inr (by decide)) (Or.inr (by decide))).trans pf5
  have pf6 := (yz46485 _ 16 (Or.inr (by decide)) (Or.inr (by decide)) (Or.inr (by decide)) (Or.inr (by decide)) (Or.inr (by decide)) (Or.inr (by decide)) (Or.inr (by decide)) (Or.inr (by decide)) (Or.inr (by decide))).trans pf6
  have hfr : ∀ b j : Nat, (tag b ≠ 18 ∨ j ≠ 16) → (tag b ≠ 24 ∨ j ≠ 2) → (tag b ≠ 24 ∨ j ≠ 3) → (tag b ≠ 24 ∨ j ≠ 4) → (tag b ≠ 24 ∨ j ≠ 5) → (tag b ≠ 24 ∨ j ≠ 6) → (tag b ≠ 24 ∨ j ≠ 7) → (tag b ≠ 25 ∨ j ≠ 3) → (tag b ≠ 25 ∨ j ≠ 4) → (tag b ≠ 25 ∨ j ≠ 12) → fld F b j = fld Fo b j := fun b j n18_16 n24_2 n24_3 n24_4 n24_5 n24_6 n24_7 n25_3 n25_4 n25_12 => (yz46485 b j n24_2 n24_3 n24_4 n24_5 n24_6 n24_7 n25_3 n25_4 n25_12).trans (hfr b j n18_16 n24_2 n24_3 n24_4 n24_5 n24_6 n24_7 n25_3 n25_4 n25_12)
  refine lv_aload_n hx hb dX3_readWall_13 rfl (lv_at hl 0 rfl) ?_
  refine t_get (C := RX3) (T := TX3) (N := 13) X hT m0 g0 rfl rfl 1 (by decide) qw_161 inlX3 rfl dX3_readWall_14 (fun v46486 hv46486 ov46486 => ?_)
  obtain rfl : v46486 = .ref x1 := hv46486.symm.trans pf1
  refine lv_dup hx hb dX3_readWall_17 rfl ?_
  refine t_get (C := RX1) (T := TX1) (N := 20) X hT mx1 gx1 rfl rfl 16 (by decide) qw_304 inlX1 rfl dX3_readWall_18 (fun v46487 hv46487 ov46487 => ?_)
  obtain rfl : v46487 = .int x6 := hv46487.symm.trans pf6
  refine lv_iconst (v := 1) hx hb dX3_readWall_21 (by decide) ?_
  refine lv_iadd hx hb dX3_readWall_22 ?_
  refine lv_topi (fun z46488 ez46488 => ?_)
  have hz46488 : z46488.toInt = x6.toInt + 1 := ar_add ez46488 (rfl : x6.toInt = x6.toInt) (by decide : (1 : Int32).toInt = 1) (by omega) (by omega)
  have rz46488 : 1 ≤ z46488.toInt ∧ z46488.toInt ≤ 6 := by omega
  refine t_put (C := RX1) (T := TX1) (N := 20) (v := .int z46488) X hT mx1 gx1 rfl tyX1 tyX1_ok nmX1 rfl 16 (by decide) qw_304 inlX1 rfl (by first | rfl | decide) (by first | rfl | decide) rfl (⟨_, rfl, (show 0 ≤ (z46488 : Int32).toInt from (by omega)), (show (z46488 : Int32).toInt ≤ 6 from (by omega))⟩) dX3_readWall_23 (fun F H locs hT v46489 h1v46489 h2v46489 => ?_)
  have pf0 := (h1v46489 _ _ (Or.inr (by decide))).trans pf0
  have pf1 := (h1v46489 _ _ (Or.inr (by decide))).trans pf1
  have pf2 := (h1v46489 _ _ (Or.inr (by decide))).trans pf2
  have pf3 := (h1v46489 _ _ (Or.inr (by decide))).trans pf3
  have pf4 := (h1v46489 _ _ (Or.inr (by decide))).trans pf4
  have pf5 := (h1v46489 _ _ (Or.inr (by decide))).trans pf5
  have hfr : ∀ b j : Nat, (tag b ≠ 18 ∨ j ≠ 16) → (tag b ≠ 24 ∨ j ≠ 2) → (tag b ≠ 24 ∨ j ≠ 3) → (tag b ≠ 24 ∨ j ≠ 4) → (tag b ≠ 24 ∨ j ≠ 5) → (tag b ≠ 24 ∨ j ≠ 6) → (tag b ≠ 24 ∨ j ≠ 7) → (tag b ≠ 25 ∨ j ≠ 3) → (tag b ≠ 25 ∨ j ≠ 4) → (tag b ≠ 25 ∨ j ≠ 12) → fld F b j = fld Fo b j := fun b j n18_16 n24_2 n24_3 n24_4 n24_5 n24_6 n24_7 n25_3 n25_4 n25_12 => (h1v46489 b j (fr_ne gx1 n18_16)).trans (hfr b j n18_16 n24_2 n24_3 n24_4 n24_5 n24_6 n24_7 n25_3 n25_4 n25_12)
  have hrel := nsr_of (fun j => h2v46489 _ j) (fun j => h2v46489 _ j) hrel
  exact t_vret hQ X hT ⟨hfr, hrel⟩ (Nat.le_of_ble_eq_true rfl) (Nat.le_of_ble_eq_true rfl) dX3_readWall_26
set_option maxHeartbeats 4000000 in
set_option maxRecDepth 100000 in
theorem kt126_X3_isLineTooMany (l : Launch) (G : KG) (tag : Nat → Nat) (L : List Nat) (F : Nat → va_E) (ho : okT G ttC tag L F) (p0 : Nat) (p1 : Int32) (x0 : Nat) (x1 : Nat) (x2 : Nat) (x3 : Nat) (x4 : Nat) (x5 : Nat) (m0 : p0 ∈ L) (g0 : tag p0 = 25) (mx0 : x0 ∈ L) (gx0 : tag x0 = 24) (pf0 : fld F p0 0 = .ref x0) (mx1 : x1 ∈ L) (gx1 : tag x1 = 18) (pf1 : fld F p0 1 = .ref x1) (mx2 : x2 ∈ L) (gx2 : tag x2 = 19) (pf2 : fld F p0 2 = .ref x2) (mx3 : x3 ∈ L) (gx3 : tag x3 = 1) (pf3 : fld F x0 0 = .ref x3) (mx4 : x4 ∈ L) (gx4 : tag x4 = 14) (pf4 : fld F p0 10 = .ref x4) (mx5 : x5 ∈ L) (gx5 : tag x5 = 15) (pf5 : fld F p0 11 = .ref x5) : TMi l yX3_isLineTooMany cX3_isLineTooMany 2 (some .boolean) { frames := 0, cells := 0, slots := 0, locals := 0 } G ttC tag L F [.ref p0, .int p1] (fun r F1 => F1 = F ∧ (0 ≤ r.toInt ∧ r.toInt ≤ 1)) := by
  refine t_bodyi (y := yX3_isLineTooMany) (cd := cX3_isLineTooMany) (mL := 2) (rt := (some .boolean)) (rm := { frames := 0, cells := 0, slots := 0, locals := 0 }) (av := [.ref p0, .int p1]) (by decide) (Nat.le_of_ble_eq_true rfl) ho ?_
  intro p e s m args below meth c ls A Q hQ X hT hl
  have hx := X.1.1
  have hb := X.1.2.1
  have hl : lv_has ls 2 [(0, .ref p0), (1, .int p1)] := hl
  have rp1 := rg_all p1
  refine lv_iload_n hx hb dX3_isLineTooMany_0 rfl (lv_at hl 1 rfl) ?_
  by_cases c47101 : p1 = 2
  · have w47102 := cv_eq (rfl : p1.toInt = p1.toInt) (by decide : (2 : Int32).toInt = 2) c47101
    refine lv_tableIn (off := 43) (tgt := 44) hx hb dX3_isLineTooMany_1 (by rw [c47101]; decide) (by rw [c47101]; decide) (by rw [c47101]; decide) (by decide) ?_
    refine lv_aload_n hx hb dX3_isLineTooMany_44 rfl (lv_at hl 0 rfl) ?_
    refine t_get (C := RX3) (T := TX3) (N := 13) X hT m0 g0 rfl rfl 7 (by decide) qw_167 inlX3 rfl dX3_isLineTooMany_45 (fun v47103 hv47103 ov47103 => ?_)
    obtain ⟨z47104, rfl, rz47104⟩ := okV_i ov47103
    refine lv_bipush (v := 10) hx hb dX3_isLineTooMany_48 (by decide) ?_
    refine lv_icmp_lt (tgt := 57) hx hb dX3_isLineTooMany_50 (by decide) (fun c47105 => ?_) (fun c47105 => ?_)
    · have w47106 := cv_lt (rfl : z47104.toInt = z47104.toInt) (by decide : (10 : Int32).toInt = 10) c47105
      refine lv_iconst (v := 0) hx hb dX3_isLineTooMany_57 (by decide) ?_
      exact t_zret hQ X hT (by decide) (⟨rfl, (by decide)⟩) (Nat.le_of_ble_eq_true rfl) (Nat.le_of_ble_eq_true rfl) dX3_isLineTooMany_58
    · have w47107 := cv_nlt (rfl : z47104.toInt = z47104.toInt) (by decide : (10 : Int32).toInt = 10) c47105
      refine lv_iconst (v := 1) hx hb dX3_isLineTooMany_53 (by decide) ?_
      refine lv_goto (tgt := 58) hx hb dX3_isLineTooMany_54 (by decide) ?_
      exact t_zret hQ X hT (by decide) (⟨rfl, (by decide)⟩) (Nat.le_of_ble_eq_true rfl) (Nat.le_of_ble_eq_true rfl) dX3_isLineTooMany_58
  have w47108 := cv_ne (rfl : p1.toInt = p1.toInt) (by decide : (2 : Int32).toInt = 2) c47101
  by_cases c47109 : p1 = 3
  · have w47110 := cv_eq (rfl : p1.toInt = p1.toInt) (by decide : (3 : Int32).toInt = 3) c47109
    refine lv_tableIn (off := 58) (tgt := 59) hx hb dX3_isLineTooMany_1 (by rw [c47109]; decide) (by rw [c47109]; decide) (by rw [c47109]; decide) (by decide) ?_
    refine lv_aload_n hx hb dX3_isLineTooMany_59 rfl (lv_at hl 0 rfl) ?_
    refine t_get (C := RX3) (T := TX3) (N := 13) X hT m0 g0 rfl rfl 1 (by decide) qw_161 inlX3 rfl dX3_isLineTooMany_60 (fun v47111 hv47111 ov47111 => ?_)
    obtain rfl : v47111 = .ref x1 := hv47111.symm.trans pf1
    refine t_get (C := RX1) (T := TX1) (N := 20) X hT mx1 gx1 rfl rfl 8 (by decide) qw_171 inlX1 rfl dX3_isLineTooMany_63 (fun v47112 hv47112 ov47112 => ?_)
    obtain ⟨z47113, rfl, rz47113⟩ := okV_i ov47112
    refine lv_iconst (v := 4) hx hb dX3_isLineTooMany_66 (by decide) ?_
    refine lv_icmp_lt (tgt := 74) hx hb dX3_isLineTooMany_67 (by decide) (fun c47114 => ?_) (fun c47114 => ?_)
    · have w47115 := cv_lt (rfl : z47113.toInt = z47113.toInt) (by decide : (4 : Int32).toInt = 4) c47114
      refine lv_iconst (v := 0) hx hb dX3_isLineTooMany_74 (by decide) ?_
      exact t_zret hQ X hT (by decide) (⟨rfl, (by decide)⟩) (Nat.le_of_ble_eq_true rfl) (Nat.le_of_ble_eq_true rfl) dX3_isLineTooMany_75
    · have w47116 := cv_nlt (rfl : z47113.toInt = z47113.toInt) (by decide : (4 : Int32).toInt = 4) c47114
      refine lv_iconst (v := 1) hx hb dX3_isLineTooMany_70 (by decide) ?_
      refine lv_goto (tgt := 75) hx hb dX3_isLineTooMany_71 (by decide) ?_
      exact t_zret hQ X hT (by decide) (⟨rfl, (by decide)⟩) (Nat.le_of_ble_eq_true rfl) (Nat.le_of_ble_eq_true rfl) dX3_isLineTooMany_75
  have w47117 := cv_ne (rfl : p1.toInt = p1.toInt) (by decide : (3 : Int32).toInt = 3) c47109
  by_cases c47118 : p1 = 4
  · have w47119 := cv_eq (rfl : p1.toInt = p1.toInt) (by decide : (4 : Int32).toInt = 4) c47118
    refine lv_tableIn (off := 75) (tgt := 76) hx hb dX3_isLineTooMany_1 (by rw [c47118]; decide) (by rw [c47118]; decide) (by rw [c47118]; decide) (by decide) ?_
    refine lv_aload_n hx hb dX3_isLineTooMany_76 rfl (lv_at hl 0 rfl) ?_
    refine t_get (C := RX3) (T := TX3) (N := 13) X hT m0 g0 rfl rfl 1 (by decide) qw_161 inlX3 rfl dX3_isLineTooMany_77 (fun v47120 hv47120 ov47120 => ?_)
    obtain rfl : v47120 = .ref x1 := hv47120.symm.trans pf1
    refine t_get (C := RX1) (T := TX1) (N := 20) X hT mx1 gx1 rfl rfl 10 (by decide) qw_172 inlX1 rfl dX3_isLineTooMany_80 (fun v47121 hv47121 ov47121 => ?_)
    obtain ⟨z47122, rfl, rz47122⟩ := okV_i ov47121
    refine lv_iconst (v := 4) hx hb dX3_isLineTooMany_83 (by decide) ?_
    refine lv_icmp_lt (tgt := 91) hx hb dX3_isLineTooMany_84 (by decide) (fun c47123 => ?_) (fun c47123 => ?_)
    · have w47124 := cv_lt (rfl : z47122.toInt = z47122.toInt) (by decide : (4 : Int32).toInt = 4) c47123
      refine lv_iconst (v := 0) hx hb dX3_isLineTooMany_91 (by decide) ?_
      exact t_zret hQ X hT (by decide) (⟨rfl, (by decide)⟩) (Nat.le_of_ble_eq_true rfl) (Nat.le_of_ble_eq_true rfl) dX3_isLineTooMany_92
    · have w47125 := cv_nlt (rfl : z47122.toInt = z47122.toInt) (by decide : (4 : Int32).toInt = 4) c47123
      refine lv_iconst (v := 1) hx hb dX3_isLineTooMany_87 (by decide) ?_
      refine lv_goto (tgt := 92) hx hb dX3_isLineTooMany_88 (by decide) ?_
      exact t_zret hQ X hT (by decide) (⟨rfl, (by decide)⟩) (Nat.le_of_ble_eq_true rfl) (Nat.le_of_ble_eq_true rfl) dX3_isLineTooMany_92
  have w47126 := cv_ne (rfl : p1.toInt = p1.toInt) (by decide : (4 : Int32).toInt = 4) c47118
  by_cases c47127 : p1 = 5
  · have w47128 := cv_eq (rfl : p1.toInt = p1.toInt) (by decide : (5 : Int32).toInt = 5) c47127
    refine lv_tableIn (off := 143) (tgt := 144) hx hb dX3_isLineTooMany_1 (by rw [c47127]; decide) (by rw [c47127]; decide) (by rw [c47127]; decide) (by decide) ?_
    refine lv_iconst (v := 0) hx hb dX3_isLineTooMany_144 (by decide) ?_
    exact t_zret hQ X hT (by decide) (⟨rfl, (by decide)⟩) (Nat.le_of_ble_eq_true rfl) (Nat.le_of_ble_eq_true rfl) dX3_isLineTooMany_145
  have w47129 := cv_ne (rfl : p1.toInt = p1.toInt) (by decide : (5 : Int32).toInt = 5) c47127
  by_cases c47130 : p1 = 6
  · have w47131 := cv_eq (rfl : p1.toInt = p1.toInt) (by decide : (6 : Int32).toInt = 6) c47130
    refine lv_tableIn (off := 92) (tgt := 93) hx hb dX3_isLineTooMany_1 (by rw [c47130]; decide) (by rw [c47130]; decide) (by rw [c47130]; decide) (by decide) ?_
    refine lv_aload_n hx hb dX3_isLineTooMany_93 rfl (lv_at hl 0 rfl) ?_
    refine t_get (C := RX3) (T := TX3) (N := 13) X hT m0 g0 rfl rfl 1 (by decide) qw_161 inlX3 rfl dX3_isLineTooMany_94 (fun v47132 hv47132 ov47132 => ?_)
    obtain rfl : v47132 = .ref x1 := hv47132.symm.trans pf1
    refine t_get (C := RX1) (T := TX1) (N := 20) X hT mx1 gx1 rfl rfl 14 (by decide) qw_303 inlX1 rfl dX3_isLineTooMany_97 (fun v47133 hv47133 ov47133 => ?_)
    obtain ⟨z47134, rfl, rz47134⟩ := okV_i ov47133
    refine lv_bipush (v := 6) hx hb dX3_isLineTooMany_100 (by decide) ?_
    refine lv_icmp_lt (tgt := 109) hx hb dX3_isLineTooMany_102 (by decide) (fun c47135 => ?_) (fun c47135 => ?_)
    · have w47136 := cv_lt (rfl : z47134.toInt = z47134.toInt) (by decide : (6 : Int32).toInt = 6) c47135
      refine lv_iconst (v := 0) hx hb dX3_isLineTooMany_109 (by decide) ?_
      exact t_zret hQ X hT (by decide) (⟨rfl, (by decide)⟩) (Nat.le_of_ble_eq_true rfl) (Nat.le_of_ble_eq_true rfl) dX3_isLineTooMany_110
    · have w47137 := cv_nlt (rfl : z47134.toInt = z47134.toInt) (by decide : (6 : Int32).toInt = 6) c47135
      refine lv_iconst (v := 1) hx hb dX3_isLineTooMany_105 (by decide) ?_
      refine lv_goto (tgt := 110) hx hb dX3_isLineTooMany_106 (by decide) ?_
      exact t_zret hQ X hT (by decide) (⟨rfl, (by decide)⟩) (Nat.le_of_ble_eq_true rfl) (Nat.le_of_ble_eq_true rfl) dX3_isLineTooMany_110
  have w47138 := cv_ne (rfl : p1.toInt = p1.toInt) (by decide : (6 : Int32).toInt = 6) c47130
  by_cases c47139 : p1 = 7
  · have w47140 := cv_eq (rfl : p1.toInt = p1.toInt) (by decide : (7 : Int32).toInt = 7) c47139
    refine lv_tableIn (off := 110) (tgt := 111) hx hb dX3_isLineTooMany_1 (by rw [c47139]; decide) (by rw [c47139]; decide) (by rw [c47139]; decide) (by decide) ?_
    refine lv_aload_n hx hb dX3_isLineTooMany_111 rfl (lv_at hl 0 rfl) ?_
    refine t_get (C := RX3) (T := TX3) (N := 13) X hT m0 g0 rfl rfl 1 (by decide) qw_161 inlX3 rfl dX3_isLineTooMany_112 (fun v47141 hv47141 ov47141 => ?_)
    obtain rfl : v47141 = .ref x1 := hv47141.symm.trans pf1
    refine t_get (C := RX1) (T := TX1) (N := 20) X hT mx1 gx1 rfl rfl 16 (by decide) qw_304 inlX1 rfl dX3_isLineTooMany_115 (fun v47142 hv47142 ov47142 => ?_)
    obtain ⟨z47143, rfl, rz47143⟩ := okV_i ov47142
    refine lv_bipush (v := 6) hx hb dX3_isLineTooMany_118 (by decide) ?_
    refine lv_icmp_lt (tgt := 127) hx hb dX3_isLineTooMany_120 (by decide) (fun c47144 => ?_) (fun c47144 => ?_)
    · have w47145 := cv_lt (rfl : z47143.toInt = z47143.toInt) (by decide : (6 : Int32).toInt = 6) c47144
      refine lv_iconst (v := 0) hx hb dX3_isLineTooMany_127 (by decide) ?_
      exact t_zret hQ X hT (by decide) (⟨rfl, (by decide)⟩) (Nat.le_of_ble_eq_true rfl) (Nat.le_of_ble_eq_true rfl) dX3_isLineTooMany_128
    · have w47146 := cv_nlt (rfl : z47143.toInt = z47143.toInt) (by decide : (6 : Int32).toInt = 6) c47144
      refine lv_iconst (v := 1) hx hb dX3_isLineTooMany_123 (by decide) ?_
      refine lv_goto (tgt := 128) hx hb dX3_isLineTooMany_124 (by decide) ?_
      exact t_zret hQ X hT (by decide) (⟨rfl, (by decide)⟩) (Nat.le_of_ble_eq_true rfl) (Nat.le_of_ble_eq_true rfl) dX3_isLineTooMany_128
  have w47147 := cv_ne (rfl : p1.toInt = p1.toInt) (by decide : (7 : Int32).toInt = 7) c47139
  by_cases c47148 : p1 = 8
  · have w47149 := cv_eq (rfl : p1.toInt = p1.toInt) (by decide : (8 : Int32).toInt = 8) c47148
    refine lv_tableIn (off := 128) (tgt := 129) hx hb dX3_isLineTooMany_1 (by rw [c47148]; decide) (by rw [c47148]; decide) (by rw [c47148]; decide) (by decide) ?_
    refine lv_aload_n hx hb dX3_isLineTooMany_129 rfl (lv_at hl 0 rfl) ?_
    refine t_get (C := RX3) (T := TX3) (N := 13) X hT m0 g0 rfl rfl 8 (by decide) qw_168 inlX3 rfl dX3_isLineTooMany_130 (fun v47150 hv47150 ov47150 => ?_)
    obtain ⟨z47151, rfl, rz47151⟩ := okV_i ov47150
    refine lv_bipush (v := 8) hx hb dX3_isLineTooMany_133 (by decide) ?_
    refine lv_icmp_lt (tgt := 142) hx hb dX3_isLineTooMany_135 (by decide) (fun c47152 => ?_) (fun c47152 => ?_)
    · have w47153 := cv_lt (rfl : z47151.toInt = z47151.toInt) (by decide : (8 : Int32).toInt = 8) c47152
      refine lv_iconst (v := 0) hx hb dX3_isLineTooMany_142 (by decide) ?_
      exact t_zret hQ X hT (by decide) (⟨rfl, (by decide)⟩) (Nat.le_of_ble_eq_true rfl) (Nat.le_of_ble_eq_true rfl) dX3_isLineTooMany_143
    · have w47154 := cv_nlt (rfl : z47151.toInt = z47151.toInt) (by decide : (8 : Int32).toInt = 8) c47152
      refine lv_iconst (v := 1) hx hb dX3_isLineTooMany_138 (by decide) ?_
      refine lv_goto (tgt := 143) hx hb dX3_isLineTooMany_139 (by decide) ?_
      exact t_zret hQ X hT (by decide) (⟨rfl, (by decide)⟩) (Nat.le_of_ble_eq_true rfl) (Nat.le_of_ble_eq_true rfl) dX3_isLineTooMany_143
  have w47155 := cv_ne (rfl : p1.toInt = p1.toInt) (by decide : (8 : Int32).toInt = 8) c47148
  refine lv_tableOut (tgt := 144) hx hb dX3_isLineTooMany_1 (by omega) (by decide) ?_
  refine lv_iconst (v := 0) hx hb dX3_isLineTooMany_144 (by decide) ?_
  exact t_zret hQ X hT (by decide) (⟨rfl, (by decide)⟩) (Nat.le_of_ble_eq_true rfl) (Nat.le_of_ble_eq_true rfl) dX3_isLineTooMany_145
