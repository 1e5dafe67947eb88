set_option maxHeartbeats 4000000 in
set_option maxRecDepth 100000 in
theorem kt166_X3_word (l : Launch) (G : KG) (tag : Nat → Nat) (L : List Nat) (Fo : Nat → va_E) (ho : okT G ttC tag L Fo) (p0 : Nat) (p1 : Nat) (x0 : Nat) (x1 : Nat) (x2 : Nat) (x3 : Nat) (x4 : Nat) (x5 : Nat) (m0 : p0 ∈ L) (g0 : tag p0 = 25) (h1 : p1 < 77) (mx0 : x0 ∈ L) (gx0 : tag x0 = 24) (pf0 : fld Fo p0 0 = .ref x0) (mx1 : x1 ∈ L) (gx1 : tag x1 = 18) (pf1 : fld Fo p0 1 = .ref x1) (mx2 : x2 ∈ L) (gx2 : tag x2 = 19) (pf2 : fld Fo p0 2 = .ref x2) (mx3 : x3 ∈ L) (gx3 : tag x3 = 1) (pf3 : fld Fo x0 0 = .ref x3) (mx4 : x4 ∈ L) (gx4 : tag x4 = 14) (pf4 : fld Fo p0 10 = .ref x4) (mx5 : x5 ∈ L) (gx5 : tag x5 = 15) (pf5 : fld Fo p0 11 = .ref x5) : TMv l yX3_word cX3_word 2 { frames := 5, cells := 0, slots := 0, locals := 108 } G ttC tag L Fo [.ref p0, .ref (G.2 (100 + p1))] (fun F1 => ((∀ b j : Nat, (tag b ≠ 24 ∨ j ≠ 2) → (tag b ≠ 24 ∨ j ≠ 3) → (tag b ≠ 24 ∨ j ≠ 4) → (tag b ≠ 24 ∨ j ≠ 5) → (tag b ≠ 24 ∨ j ≠ 6) → (tag b ≠ 24 ∨ j ≠ 7) → (tag b ≠ 25 ∨ j ≠ 3) → (tag b ≠ 25 ∨ j ≠ 4) → fld F1 b j = fld Fo b j) ∧ EF tag F1 Fo)) := by
  refine t_bodyv (y := yX3_word) (cd := cX3_word) (mL := 2) (rm := { frames := 5, cells := 0, slots := 0, locals := 108 }) (av := [.ref p0, .ref (G.2 (100 + p1))]) (by decide) (Nat.le_of_ble_eq_true rfl) ho ?_
  intro p e s m args below meth c ls A Q hQ X hT hl
  have hx := X.1.1
  have hb := X.1.2.1
  have hl : lv_has ls 2 [(0, .ref p0), (1, .ref (G.2 (100 + p1)))] := hl
  obtain ⟨F, hFo⟩ : ∃ F : Nat → va_E, F = Fo := ⟨_, rfl⟩
  rw [← hFo] at hT pf0 pf1 pf2 pf3 pf4 pf5
  have hfr : (∀ b j : Nat, (tag b ≠ 24 ∨ j ≠ 2) → (tag b ≠ 24 ∨ j ≠ 3) → (tag b ≠ 24 ∨ j ≠ 4) → (tag b ≠ 24 ∨ j ≠ 5) → (tag b ≠ 24 ∨ j ≠ 6) → (tag b ≠ 24 ∨ j ≠ 7) → (tag b ≠ 25 ∨ j ≠ 3) → (tag b ≠ 25 ∨ j ≠ 4) → fld F b j = fld Fo b j) ∧ EF tag F Fo := by
    rw [hFo]
    exact ⟨by intros; rfl, fun _ _ _ => rfl⟩
  refine lv_aload_n hx hb dX3_word_0 rfl (lv_at hl 0 rfl) ?_
  refine t_get (C := RX3) (T := TX3) (N := 13) X hT m0 g0 rfl rfl 3 (by decide) qw_163 inlX3 rfl dX3_word_1 (fun v64747 hv64747 ov64747 => ?_)
  obtain ⟨z64748, rfl, rz64748⟩ := okV_i ov64747
  refine lv_if_eq (tgt := 8) hx hb dX3_word_4 (by decide) (fun c64749 => ?_) (fun c64749 => ?_)
  · have w64750 := cv_eq (rfl : z64748.toInt = z64748.toInt) (by decide : (0 : Int32).toInt = 0) c64749
    refine lv_aload_n hx hb dX3_word_8 rfl (lv_at hl 0 rfl) ?_
    refine t_get (C := RX3) (T := TX3) (N := 13) X hT m0 g0 rfl rfl 0 (by decide) qw_73 inlX3 rfl dX3_word_9 (fun v64751 hv64751 ov64751 => ?_)
    obtain rfl : v64751 = .ref x0 := hv64751.symm.trans pf0
    refine lv_aload_n hx hb dX3_word_12 rfl (lv_at hl 1 rfl) ?_
    refine t_cVi (n := 1) (C := RX8) (T := TX8) (N := 8) (As := [.ref (G.2 (100 + p1))]) (rest := []) X hT (kt107_X8_isWord l G tag L F hT.2.2.2 x0 p1 x3 mx0 gx0 h1 mx3 gx3 pf3) mx0 gx0 rfl rfl qw_234 qw_235 qw_236 qw_72 qw_237 ⟨rfl, by decide +kernel, by decide +kernel, by decide +kernel⟩ ⟨Nat.le_of_ble_eq_true rfl, Nat.le_of_ble_eq_true rfl⟩ hl rfl rfl (Nat.le_of_ble_eq_true rfl) dX3_word_13 ⟨Nat.le_of_ble_eq_true rfl, Nat.le_of_ble_eq_true rfl⟩ (fun z64752 F9 H locs hT hz64752 => ?_)
    obtain ⟨fz64752, hz64752⟩ := hz64752
    rw [fz64752] at hT
    refine lv_if_eq (tgt := 29) hx hb dX3_word_16 (by decide) (fun c64753 => ?_) (fun c64753 => ?_)
    · have w64754 := cv_eq (rfl : z64752.toInt = z64752.toInt) (by decide : (0 : Int32).toInt = 0) c64753
      refine lv_aload_n hx hb dX3_word_29 rfl (lv_at hl 0 rfl) ?_
      refine lv_iconst (v := 1) hx hb dX3_word_30 (by decide) ?_
      refine lv_aload_n hx hb dX3_word_31 rfl (lv_at hl 0 rfl) ?_
      refine t_get (C := RX3) (T := TX3) (N := 13) X hT m0 g0 rfl rfl 0 (by decide) qw_73 inlX3 rfl dX3_word_32 (fun v64755 hv64755 ov64755 => ?_)
      obtain rfl : v64755 = .ref x0 := hv64755.symm.trans pf0
      refine t_get (C := RX8) (T := TX8) (N := 8) X hT mx0 gx0 rfl rfl 4 (by decide) qw_227 inlX8 rfl dX3_word_35 (fun v64756 hv64756 ov64756 => ?_)
      obtain ⟨z64757, rfl, rz64757⟩ := okV_i ov64756
      refine t_cVv (n := 2) (C := RX3) (T := TX3) (N := 13) (As := [.int 1, .int z64757]) (rest := []) X hT (kt156_X3_fail l G tag L F hT.2.2.2 p0 1 z64757 m0 g0 (by decide)) m0 g0 rfl rfl qw_287 qw_288 qw_289 qw_28 qw_290 ⟨rfl, by decide +kernel, by decide +kernel, by decide +kernel⟩ ⟨Nat.le_of_ble_eq_true rfl, Nat.le_of_ble_eq_true rfl⟩ hl rfl rfl (Nat.le_of_ble_eq_true rfl) dX3_word_38 ⟨Nat.le_of_ble_eq_true rfl, Nat.le_of_ble_eq_true rfl⟩ (fun F H locs hT hz64758 => ?_)
      obtain ⟨yz64758, xz64758_0⟩ := hz64758
      have pf0 := (yz64758.1 _ 0 (Or.inr (by decide)) (Or.inr (by decide))).trans pf0
      have pf1 := (yz64758.1 _ 1 (Or.inr (by decide)) (Or.inr (by decide))).trans pf1
      have pf2 := (yz64758.1 _ 2 (Or.inr (by decide)) (Or.inr (by decide))).trans pf2
      have pf3 := (yz64758.1 _ 0 (Or.inr (by decide)) (Or.inr (by decide))).trans pf3
      have pf4 := (yz64758.1 _ 10 (Or.inr (by decide)) (Or.inr (by decide))).trans pf4
      have pf5 := (yz64758.1 _ 11 (Or.inr (by decide)) (Or.inr (by decide))).trans pf5
      have hv64756 := (yz64758.1 _ 4 (Or.inr (by decide)) (Or.inl (by rw [gx0]; decide))).trans hv64756
      have hfr : (∀ b j : Nat, (tag b ≠ 24 ∨ j ≠ 2) → (tag b ≠ 24 ∨ j ≠ 3) → (tag b ≠ 24 ∨ j ≠ 4) → (tag b ≠ 24 ∨ j ≠ 5) → (tag b ≠ 24 ∨ j ≠ 6) → (tag b ≠ 24 ∨ j ≠ 7) → (tag b ≠ 25 ∨ j ≠ 3) → (tag b ≠ 25 ∨ j ≠ 4) → fld F b j = fld Fo b j) ∧ EF tag F Fo := ⟨fun b j n24_2 n24_3 n24_4 n24_5 n24_6 n24_7 n25_3 n25_4 => (yz64758.1 b j n25_3 n25_4).trans (hfr.1 b j n24_2 n24_3 n24_4 n24_5 n24_6 n24_7 n25_3 n25_4), fun b j hb => (yz64758.2 b j hb).trans (hfr.2 b j hb)⟩
      obtain ⟨z64759, qz64759, rz64759⟩ := xz64758_0
      exact t_vret hQ X hT hfr (Nat.le_of_ble_eq_true rfl) (Nat.le_of_ble_eq_true rfl) dX3_word_41
    · have w64760 := cv_ne (rfl : z64752.toInt = z64752.toInt) (by decide : (0 : Int32).toInt = 0) c64753
      refine lv_aload_n hx hb dX3_word_19 rfl (lv_at hl 0 rfl) ?_
      refine t_get (C := RX3) (T := TX3) (N := 13) X hT m0 g0 rfl rfl 0 (by decide) qw_73 inlX3 rfl dX3_word_20 (fun v64761 hv64761 ov64761 => ?_)
      obtain rfl : v64761 = .ref x0 := hv64761.symm.trans pf0
      refine t_cVv (n := 0) (C := RX8) (T := TX8) (N := 8) (As := []) (rest := []) X hT (kt98_X8_advance l G tag L F hT.2.2.2 x0 x3 mx0 gx0 mx3 gx3 pf3) mx0 gx0 rfl rfl qw_305 qw_197 qw_198 qw_72 qw_199 ⟨rfl, by decide +kernel, by decide +kernel, by decide +kernel⟩ ⟨Nat.le_of_ble_eq_true rfl, Nat.le_of_ble_eq_true rfl⟩ hl rfl rfl (Nat.le_of_ble_eq_true rfl) dX3_word_23 ⟨Nat.le_of_ble_eq_true rfl, Nat.le_of_ble_eq_true rfl⟩ (fun F H locs hT hz64762 => ?_)
      have yz64762 := hz64762
      have pf0 := (yz64762.1 _ 0 (Or.inr (by decide)) (Or.inr (by decide)) (Or.inr (by decide)) (Or.inr (by decide)) (Or.inr (by decide)) (Or.inr (by decide))).trans pf0
      have pf1 := (yz64762.1 _ 1 (Or.inr (by decide)) (Or.inr (by decide)) (Or.inr (by decide)) (Or.inr (by decide)) (Or.inr (by decide)) (Or.inr (by decide))).trans pf1
      have pf2 := (yz64762.1 _ 2 (Or.inl (by rw [g0]; decide)) (Or.inr (by decide)) (Or.inr (by decide)) (Or.inr (by decide)) (Or.inr (by decide)) (Or.inr (by decide))).trans pf2
      have pf3 := (yz64762.1 _ 0 (Or.inr (by decide)) (Or.inr (by decide)) (Or.inr (by decide)) (Or.inr (by decide)) (Or.inr (by decide)) (Or.inr (by decide))).trans pf3
      have pf4 := (yz64762.1 _ 10 (Or.inr (by decide)) (Or.inr (by decide)) (Or.inr (by decide)) (Or.inr (by decide)) (Or.inr (by decide)) (Or.inr (by decide))).trans pf4
      have pf5 := (yz64762.1 _ 11 (Or.inr (by decide)) (Or.inr (by decide)) (Or.inr (by decide)) (Or.inr (by decide)) (Or.inr (by decide)) (Or.inr (by decide))).trans pf5
      have hv64747 := (yz64762.1 _ 3 (Or.inr (by decide)) (Or.inl (by rw [g0]; decide)) (Or.inr (by decide)) (Or.inr (by decide)) (Or.inr (by decide)) (Or.inr (by decide))).trans hv64747
      have hfr : (∀ b j : Nat, (tag b ≠ 24 ∨ j ≠ 2) → (tag b ≠ 24 ∨ j ≠ 3) → (tag b ≠ 24 ∨ j ≠ 4) → (tag b ≠ 24 ∨ j ≠ 5) → (tag b ≠ 24 ∨ j ≠ 6) → (tag b ≠ 24 ∨ j ≠ 7) → (tag b ≠ 25 ∨ j ≠ 3) → (tag b ≠ 25 ∨ j ≠ 4) → fld F b j = fld Fo b j) ∧ EF tag F Fo := ⟨fun b j n24_2 n24_3 n24_4 n24_5 n24_6 n24_7 n25_3 n25_4 => (yz64762.1 b j n24_2 n24_3 n24_4 n24_5 n24_6 n24_7).trans (hfr.1 b j n24_2 n24_3 n24_4 n24_5 n24_6 n24_7 n25_3 n25_4), fun b j hb => (yz64762.2 b j hb).trans (hfr.2 b j hb)⟩
      refine lv_goto (tgt := 41) hx hb dX3_word_26 (by decide) ?_
      exact t_vret hQ X hT hfr (Nat.le_of_ble_eq_true rfl) (Nat.le_of_ble_eq_true rfl) dX3_word_41
  · have w64763 := cv_ne (rfl : z64748.toInt = z64748.toInt) (by decide : (0 : Int32).toInt = 0) c64749
    exact t_vret hQ X hT hfr (Nat.le_of_ble_eq_true rfl) (Nat.le_of_ble_eq_true rfl) dX3_word_7
set_option maxHeartbeats 4000000 in
set_option maxRecDepth 100000 in
theorem kt167_X3_whole (l : Launch) (G : KG) (tag : Nat → Nat) (L : List Nat) (Fo : Nat → va_E) (ho : okT G ttC tag L Fo) (p0 : Nat) (p1 : Int32) (p2 : Int32) (x0 : Nat) (x1 : Nat) (x2 : Nat) (x3 : Nat) (x4 : Nat) (x5 : Nat) (m0 : p0 ∈ L) (g0 : tag p0 = 25) (h1 : 3 ≤ p1.toInt ∧ p1.toInt ≤ 3) (h2 : 12 ≤ p2.toInt ∧ p2.toInt ≤ 12) (mx0 : x0 ∈ L) (gx0 : tag x0 = 24) (pf0 : fld Fo p0 0 = .ref x0) (mx1 : x1 ∈ L) (gx1 : tag x1 = 18) (pf1 : fld Fo p0 1 = .ref x1) (mx2 : x2 ∈ L) (gx2 : tag x2 = 19) (pf2 : fld Fo p0 2 = .ref x2) (mx3 : x3 ∈ L) (gx3 : tag x3 = 1) (pf3 : fld Fo x0 0 = .ref x3) (mx4 : x4 ∈ L) (gx4 : tag x4 = 14) (pf4 : fld Fo p0 10 = .ref x4) (mx5 : x5 ∈ L) (gx5 : tag x5 = 15) (pf5 : fld Fo p0 11 = .ref x5) : TMi l yX3_whole cX3_whole 4 (some .int) { frames := 3, cells := 0, slots := 0, locals := 62 } G ttC tag L Fo [.ref p0, .int p1, .int p2] (fun r F1 => (3 ≤ r.toInt ∧ r.toInt ≤ 12) ∧ ((∀ b j : Nat, (tag b ≠ 24 ∨ j ≠ 2) → (tag b ≠ 24 ∨ j ≠ 3) → (tag b ≠ 24 ∨ j ≠ 4) → (tag b ≠ 24 ∨ j ≠ 5) → (tag b ≠ 24 ∨ j ≠ 6) → (tag b ≠ 24 ∨ j ≠ 7) → (tag b ≠ 25 ∨ j ≠ 3) → (tag b ≠ 25 ∨ j ≠ 4) → fld F1 b j = fld Fo b j) ∧ EF tag F1 Fo)) := by
  refine t_bodyi (y := yX3_whole) (cd := cX3_whole) (mL := 4) (rt := (some .int)) (rm := { frames := 3, cells := 0, slots := 0, locals := 62 }) (av := [.ref p0, .int p1, .int p2]) (by decide) (Nat.le_of_ble_eq_true rfl) ho ?_
  intro p e s m args below meth c ls A Q hQ X hT hl
  have hx := X.1.1
  have hb := X.1.2.1
  have hl : lv_has ls 4 [(0, .ref p0), (1, .int p1), (2, .int p2)] := hl
  obtain ⟨F, hFo⟩ : ∃ F : Nat → va_E, F = Fo := ⟨_, rfl⟩
  rw [← hFo] at hT pf0 pf1 pf2 pf3 pf4 pf5
  have hfr : (∀ b j : Nat, (tag b ≠ 24 ∨ j ≠ 2) → (tag b ≠ 24 ∨ j ≠ 3) → (tag b ≠ 24 ∨ j ≠ 4) → (tag b ≠ 24 ∨ j ≠ 5) → (tag b ≠ 24 ∨ j ≠ 6) → (tag b ≠ 24 ∨ j ≠ 7) → (tag b ≠ 25 ∨ j ≠ 3) → (tag b ≠ 25 ∨ j ≠ 4) → fld F b j = fld Fo b j) ∧ EF tag F Fo := by
    rw [hFo]
    exact ⟨by intros; rfl, fun _ _ _ => rfl⟩
  refine lv_aload_n hx hb dX3_whole_0 rfl (lv_at hl 0 rfl) ?_
  refine t_get (C := RX3) (T := TX3) (N := 13) X hT m0 g0 rfl rfl 0 (by decide) qw_73 inlX3 rfl dX3_whole_1 (fun v65349 hv65349 ov65349 => ?_)
  obtain rfl : v65349 = .ref x0 := hv65349.symm.trans pf0
  refine t_get (C := RX8) (T := TX8) (N := 8) X hT mx0 gx0 rfl rfl 3 (by decide) qw_170 inlX8 rfl dX3_whole_4 (fun v65350 hv65350 ov65350 => ?_)
  obtain ⟨z65351, rfl, rz65351⟩ := okV_i ov65350
  refine lv_iconst (v := 2) hx hb dX3_whole_7 (by decide) ?_
  refine lv_icmp_eq (tgt := 26) hx hb dX3_whole_8 (by decide) (fun c65352 => ?_) (fun c65352 => ?_)
  · have w65353 := cv_eq (rfl : z65351.toInt = z65351.toInt) (by decide : (2 : Int32).toInt = 2) c65352
    refine lv_aload_n hx hb dX3_whole_26 rfl (lv_at hl 0 rfl) ?_
    refine t_get (C := RX3) (T := TX3) (N := 13) X hT m0 g0 rfl rfl 0 (by decide) qw_73 inlX3 rfl dX3_whole_27 (fun v65354 hv65354 ov65354 => ?_)
    obtain rfl : v65354 = .ref x0 := hv65354.symm.trans pf0
    refine t_get (C := RX8) (T := TX8) (N := 8) X hT mx0 gx0 rfl rfl 6 (by decide) qw_322 inlX8 rfl dX3_whole_30 (fun v65355 hv65355 ov65355 => ?_)
    obtain ⟨z65356, rfl, rz65356⟩ := okV_i ov65355
    refine lv_iload_n hx hb dX3_whole_33 rfl (lv_at hl 1 rfl) ?_
    refine lv_icmp_lt (tgt := 48) hx hb dX3_whole_34 (by decide) (fun c65357 => ?_) (fun c65357 => ?_)
    · have w65358 := cv_lt (rfl : z65356.toInt = z65356.toInt) (rfl : p1.toInt = p1.toInt) c65357
      refine lv_aload_n hx hb dX3_whole_48 rfl (lv_at hl 0 rfl) ?_
      refine lv_iconst (v := 4) hx hb dX3_whole_49 (by decide) ?_
      refine lv_aload_n hx hb dX3_whole_50 rfl (lv_at hl 0 rfl) ?_
      refine t_get (C := RX3) (T := TX3) (N := 13) X hT m0 g0 rfl rfl 0 (by decide) qw_73 inlX3 rfl dX3_whole_51 (fun v65359 hv65359 ov65359 => ?_)
      obtain rfl : v65359 = .ref x0 := hv65359.symm.trans pf0
      refine t_get (C := RX8) (T := TX8) (N := 8) X hT mx0 gx0 rfl rfl 4 (by decide) qw_227 inlX8 rfl dX3_whole_54 (fun v65360 hv65360 ov65360 => ?_)
      obtain ⟨z65361, rfl, rz65361⟩ := okV_i ov65360
      refine t_cVv (n := 2) (C := RX3) (T := TX3) (N := 13) (As := [.int 4, .int z65361]) (rest := []) X hT (kt156_X3_fail l G tag L F hT.2.2.2 p0 4 z65361 m0 g0 (by decide)) m0 g0 rfl rfl qw_287 qw_288 qw_289 qw_28 qw_290 ⟨rfl, by decide +kernel, by decide +kernel, by decide +kernel⟩ ⟨Nat.le_of_ble_eq_true rfl, Nat.le_of_ble_eq_true rfl⟩ hl rfl rfl (Nat.le_of_ble_eq_true rfl) dX3_whole_57 ⟨Nat.le_of_ble_eq_true rfl, Nat.le_of_ble_eq_true rfl⟩ (fun F H locs hT hz65362 => ?_)
      obtain ⟨yz65362, xz65362_0⟩ := hz65362
      have pf0 := (yz65362.1 _ 0 (Or.inr (by decide)) (Or.inr (by decide))).trans pf0
      have pf1 := (yz65362.1 _ 1 (Or.inr (by decide)) (Or.inr (by decide))).trans pf1
      have pf2 := (yz65362.1 _ 2 (Or.inr (by decide)) (Or.inr (by decide))).trans pf2
      have pf3 := (yz65362.1 _ 0 (Or.inr (by decide)) (Or.inr (by decide))).trans pf3
      have pf4 := (yz65362.1 _ 10 (Or.inr (by decide)) (Or.inr (by decide))).trans pf4
      have pf5 := (yz65362.1 _ 11 (Or.inr (by decide)) (Or.inr (by decide))).trans pf5
      have hv65350 := (yz65362.1 _ 3 (Or.inl (by rw [gx0]; decide)) (Or.inr (by decide))).trans hv65350
      have hv65355 := (yz65362.1 _ 6 (Or.inr (by decide)) (Or.inr (by decide))).trans hv65355
      have hv65360 := (yz65362.1 _ 4 (Or.inr (by decide)) (Or.inl (by rw [gx0]; decide))).trans hv65360
      have hfr : (∀ b j : Nat, (tag b ≠ 24 ∨ j ≠ 2) → (tag b ≠ 24 ∨ j ≠ 3) → (tag b ≠ 24 ∨ j ≠ 4) → (tag b ≠ 24 ∨ j ≠ 5) → (tag b ≠ 24 ∨ j ≠ 6) → (tag b ≠ 24 ∨ j ≠ 7) → (tag b ≠ 25 ∨ j ≠ 3) → (tag b ≠ 25 ∨ j ≠ 4) → fld F b j = fld Fo b j) ∧ EF tag F Fo := ⟨fun b j n24_2 n24_3 n24_4 n24_5 n24_6 n24_7 n25_3 n25_4 => (yz65362.1 b j n25_3 n25_4).trans (hfr.1 b j n24_2 n24_3 n24_4 n24_5 n24_6 n24_7 n25_3 n25_4), fun b j hb => (yz65362.2 b j hb).trans (hfr.2 b j hb)⟩
      obtain ⟨z65363, qz65363, rz65363⟩ := xz65362_0
      refine lv_aload_n hx hb dX3_whole_60 rfl (lv_at hl 0 rfl) ?_
      refine t_get (C := RX3) (T := TX3) (N := 13) X hT m0 g0 rfl rfl 3 (by decide) qw_163 inlX3 rfl dX3_whole_61 (fun v65364 hv65364 ov65364 => ?_)
      obtain rfl : v65364 = .int z65363 := hv65364.symm.trans qz65363
      refine lv_if_eq (tgt := 69) hx hb dX3_whole_64 (by decide) (fun c65365 => ?_) (fun c65365 => ?_)
      · have w65366 := cv_eq (rfl : z65363.toInt = z65363.toInt) (by decide : (0 : Int32).toInt = 0) c65365
        exfalso
        omega
      · have w65367 := cv_ne (rfl : z65363.toInt = z65363.toInt) (by decide : (0 : Int32).toInt = 0) c65365
        refine lv_iload_n hx hb dX3_whole_67 rfl (lv_at hl 1 rfl) ?_
        exact t_iret hQ X hT (⟨(by omega), hfr⟩) (Nat.le_of_ble_eq_true rfl) (Nat.le_of_ble_eq_true rfl) dX3_whole_68
    · have w65368 := cv_nlt (rfl : z65356.toInt = z65356.toInt) (rfl : p1.toInt = p1.toInt) c65357
      refine lv_aload_n hx hb dX3_whole_37 rfl (lv_at hl 0 rfl) ?_
      refine t_get (C := RX3) (T := TX3) (N := 13) X hT m0 g0 rfl rfl 0 (by decide) qw_73 inlX3 rfl dX3_whole_38 (fun v65369 hv65369 ov65369 => ?_)
      obtain rfl : v65369 = .ref x0 := hv65369.symm.trans pf0
      refine t_get (C := RX8) (T := TX8) (N := 8) X hT mx0 gx0 rfl rfl 6 (by decide) qw_322 inlX8 rfl dX3_whole_41 (fun v65370 hv65370 ov65370 => ?_)
      obtain rfl : v65370 = .int z65356 := hv65370.symm.trans hv65355
      refine lv_iload_n hx hb dX3_whole_44 rfl (lv_at hl 2 rfl) ?_
      refine lv_icmp_le (tgt := 60) hx hb dX3_whole_45 (by decide) (fun c65371 => ?_) (fun c65371 => ?_)
      · have w65372 := cv_le (rfl : z65356.toInt = z65356.toInt) (rfl : p2.toInt = p2.toInt) c65371
        refine lv_aload_n hx hb dX3_whole_60 rfl (lv_at hl 0 rfl) ?_
        refine t_get (C := RX3) (T := TX3) (N := 13) X hT m0 g0 rfl rfl 3 (by decide) qw_163 inlX3 rfl dX3_whole_61 (fun v65373 hv65373 ov65373 => ?_)
        obtain ⟨z65374, rfl, rz65374⟩ := okV_i ov65373
        refine lv_if_eq (tgt := 69) hx hb dX3_whole_64 (by decide) (fun c65375 => ?_) (fun c65375 => ?_)
        · have w65376 := cv_eq (rfl : z65374.toInt = z65374.toInt) (by decide : (0 : Int32).toInt = 0) c65375
          refine lv_aload_n hx hb dX3_whole_69 rfl (lv_at hl 0 rfl) ?_
          refine t_get (C := RX3) (T := TX3) (N := 13) X hT m0 g0 rfl rfl 0 (by decide) qw_73 inlX3 rfl dX3_whole_70 (fun v65377 hv65377 ov65377 => ?_)
          obtain rfl : v65377 = .ref x0 := hv65377.symm.trans pf0
          refine t_get (C := RX8) (T := TX8) (N := 8) X hT mx0 gx0 rfl rfl 6 (by decide) qw_322 inlX8 rfl dX3_whole_73 (fun v65378 hv65378 ov65378 => ?_)
          obtain rfl : v65378 = .int z65356 := hv65378.symm.trans hv65355
          refine lv_istore_n (lv' := [(3, .int z65356), (0, .ref p0), (1, .int p1), (2, .int p2)]) hx hb dX3_whole_76 rfl hl (by decide) rfl (fun ls hl => ?_)
          refine lv_aload_n hx hb dX3_whole_77 rfl (lv_at hl 1 rfl) ?_
          refine t_get (C := RX3) (T := TX3) (N := 13) X hT m0 g0 rfl rfl 0 (by decide) qw_73 inlX3 rfl dX3_whole_78 (fun v65379 hv65379 ov65379 => ?_)
          obtain rfl : v65379 = .ref x0 := hv65379.symm.trans pf0
          refine t_cVv (n := 0) (C := RX8) (T := TX8) (N := 8) (As := []) (rest := []) X hT (kt98_X8_advance l G tag L F hT.2.2.2 x0 x3 mx0 gx0 mx3 gx3 pf3) mx0 gx0 rfl rfl qw_305 qw_197 qw_198 qw_72 qw_199 ⟨rfl, by decide +kernel, by decide +kernel, by decide +kernel⟩ ⟨Nat.le_of_ble_eq_true rfl, Nat.le_of_ble_eq_true rfl⟩ hl rfl rfl (Nat.le_of_ble_eq_true rfl) dX3_whole_81 ⟨Nat.le_of_ble_eq_true rfl, Nat.le_of_ble_eq_true rfl⟩ (fun F H locs hT hz65380 => ?_)
          have yz65380 := hz65380
          have pf0 := (yz65380.1 _ 0 (Or.inr (by decide)) (Or.inr (by decide)) (Or.inr (by decide)) (Or.inr (by decide)) (Or.inr (by decide)) (Or.inr (by decide))).trans pf0
          have pf1 := (yz65380.1 _ 1 (Or.inr (by decide)) (Or.inr (by decide)) (Or.inr (by decide)) (Or.inr (by decide)) (Or.inr (by decide)) (Or.inr (by decide))).trans pf1
          have pf2 := (yz65380.1 _ 2 (Or.inl (by rw [g0]; decide)) (Or.inr (by decide)) (Or.inr (by decide)) (Or.inr (by decide)) (Or.inr (by decide)) (Or.inr (by decide))).trans pf2
          have pf3 := (yz65380.1 _ 0 (Or.inr (by decide)) (Or.inr (by decide)) (Or.inr (by decide)) (Or.inr (by decide)) (Or.inr (by decide)) (Or.inr (by decide))).trans pf3
          have pf4 := (yz65380.1 _ 10 (Or.inr (by decide)) (Or.inr (by decide)) (Or.inr (by decide)) (Or.inr (by decide)) (Or.inr (by decide)) (Or.inr (by decide))).trans pf4
          have pf5 := (yz65380.1 _ 11 (Or.inr (by decide)) (Or.inr (by decide)) (Or.inr (by decide)) (Or.inr (by decide)) (Or.inr (by decide)) (Or.inr (by decide))).trans pf5
          have hv65373 := (yz65380.1 _ 3 (Or.inr (by decide)) (Or.inl (by rw [g0]; decide)) (Or.inr (by decide)) (Or.inr (by decide)) (Or.inr (by decide)) (Or.inr (by decide))).trans hv65373
          have hfr : (∀ b j : Nat, (tag b ≠ 24 ∨ j ≠ 2) → (tag b ≠ 24 ∨ j ≠ 3) → (tag b ≠ 24 ∨ j ≠ 4) → (tag b ≠ 24 ∨ j ≠ 5) → (tag b ≠ 24 ∨ j ≠ 6) → (tag b ≠ 24 ∨ j ≠ 7) → (tag b ≠ 25 ∨ j ≠ 3) → (tag b ≠ 25 ∨ j ≠ 4) → fld F b j = fld Fo b j) ∧ EF tag F Fo := ⟨fun b j n24_2 n24_3 n24_4 n24_5 n24_6 n24_7 n25_3 n25_4 => (yz65380.1 b j n24_2 n24_3 n24_4 n24_5 n24_6 n24_7).trans (hfr.1 b j n24_2 n24_3 n24_4 n24_5 n24_6 n24_7 n25_3 n25_4), fun b j hb => (yz65380.2 b j hb).trans (hfr.2 b j hb)⟩
          refine lv_iload_n hx hb dX3_whole_84 rfl (lv_at hl 0 rfl) ?_
          exact t_iret hQ X hT (⟨(by omega), hfr⟩) (Nat.le_of_ble_eq_true rfl) (Nat.le_of_ble_eq_true rfl) dX3_whole_85
        · have w65381 := cv_ne (rfl : z65374.toInt = z65374.toInt) (by decide : (0 : Int32).toInt = 0) c65375
          refine lv_iload_n hx hb dX3_whole_67 rfl (lv_at hl 1 rfl) ?_
          exact t_iret hQ X hT (⟨(by omega), hfr⟩) (Nat.le_of_ble_eq_true rfl) (Nat.le_of_ble_eq_true rfl) dX3_whole_68
      · have w65382 := cv_nle (rfl : z65356.toInt = z65356.toInt) (rfl : p2.toInt = p2.toInt) c65371
        refine lv_aload_n hx hb dX3_whole_48 rfl (lv_at hl 0 rfl) ?_
        refine lv_iconst (v := 4) hx hb dX3_whole_49 (by decide) ?_
        refine lv_aload_n hx hb dX3_whole_50 rfl (lv_at hl 0 rfl) ?_
        refine t_get (C := RX3) (T := TX3) (N := 13) X hT m0 g0 rfl rfl 0 (by decide) qw_73 inlX3 rfl dX3_whole_51 (fun v65383 hv65383 ov65383 => ?_)
        obtain rfl : v65383 = .ref x0 := hv65383.symm.trans pf0
        refine t_get (C := RX8) (T := TX8) (N := 8) X hT mx0 gx0 rfl rfl 4 (by decide) qw_227 inlX8 rfl dX3_whole_54 (fun v65384 hv65384 ov65384 => ?_)
        obtain ⟨z65385, rfl, rz65385⟩ := okV_i ov65384
        refine t_cVv (n := 2) (C := RX3) (T := TX3) (N := 13) (As := [.int 4, .int z65385]) (rest := []) X hT (kt156_X3_fail l G tag L F hT.2.2.2 p0 4 z65385 m0 g0 (by decide)) m0 g0 rfl rfl qw_287 qw_288 qw_289 qw_28 qw_290 ⟨rfl, by decide +kernel, by decide +kernel, by decide +kernel⟩ ⟨Nat.le_of_ble_eq_true rfl, Nat.le_of_ble_eq_true rfl⟩ hl rfl rfl (Nat.le_of_ble_eq_true rfl) dX3_whole_57 ⟨Nat.le_of_ble_eq_true rfl, Nat.le_of_ble_eq_true rfl⟩ (fun F H locs hT hz65386 => ?_)
        obtain ⟨yz65386, xz65386_0⟩ := hz65386
        have pf0 := (yz65386.1 _ 0 (Or.inr (by decide)) (Or.inr (by decide))).trans pf0
        have pf1 := (yz65386.1 _ 1 (Or.inr (by decide)) (Or.inr (by decide))).trans pf1
        have pf2 := (yz65386.1 _ 2 (Or.inr (by decide)) (Or.inr (by decide))).trans pf2
        have pf3 := (yz65386.1 _ 0 (Or.inr (by decide)) (Or.inr (by decide))).trans pf3
        have pf4 := (yz65386.1 _ 10 (Or.inr (by decide)) (Or.inr (by decide))).trans pf4
        have pf5 := (yz65386.1 _ 11 (Or.inr (by decide)) (Or.inr (by decide))).trans pf5
        have hv65350 := (yz65386.1 _ 3 (Or.inl (by rw [gx0]; decide)) (Or.inr (by decide))).trans hv65350
        have hv65355 := (yz65386.1 _ 6 (Or.inr (by decide)) (Or.inr (by decide))).trans hv65355
        have hv65384 := (yz65386.1 _ 4 (Or.inr (by decide)) (Or.inl (by rw [gx0]; decide))).trans hv65384
        have hfr : (∀ b j : Nat, (tag b ≠ 24 ∨ j ≠ 2) → (tag b ≠ 24 ∨ j ≠ 3) → (tag b ≠ 24 ∨ j ≠ 4) → (tag b ≠ 24 ∨ j ≠ 5) → (tag b ≠ 24 ∨ j ≠ 6) → (tag b ≠ 24 ∨ j ≠ 7) → (tag b ≠ 25 ∨ j ≠ 3) → (tag b ≠ 25 ∨ j ≠ 4) → fld F b j = fld Fo b j) ∧ EF tag F Fo := ⟨fun b j n24_2 n24_3 n24_4 n24_5 n24_6 n24_7 n25_3 n25_4 => (yz65386.1 b j n25_3 n25_4).trans (hfr.1 b j n24_2 n24_3 n24_4 n24_5 n24_6 n24_7 n25_3 n25_4), fun b j hb => (yz65386.2 b j hb).trans (hfr.2 b j hb)⟩
        obtain ⟨z65387, qz65387, rz65387⟩ := xz65386_0
        refine lv_aload_n hx hb dX3_whole_60 rfl (lv_at hl 0 rfl) ?_
        refine t_get (C := RX3) (T := TX3) (N := 13) X hT m0 g0 rfl rfl 3 (by decide) qw_163 inlX3 rfl dX3_whole_61 (fun v65388 hv65388 ov65388 => ?_)
        obtain rfl : v65388 = .int z65387 := hv65388.symm.trans qz65387
        refine lv_if_eq (tgt := 69) hx hb dX3_whole_64 (by decide) (fun c65389 => ?_) (fun c65389 => ?_)
        · have w65390 := cv_eq (rfl : z65387.toInt = z65387.toInt) (by decide : (0 : Int32).toInt = 0) c65389
          exfalso
          omega
        · have w65391 := cv_ne (rfl : z65387.toInt = z65387.toInt) (by decide : (0 : Int32).toInt = 0) c65389
          refine lv_iload_n hx hb dX3_whole_67 rfl (lv_at hl 1 rfl) ?_
          exact t_iret hQ X hT (⟨(by omega), hfr⟩) (Nat.le_of_ble_eq_true rfl) (Nat.le_of_ble_eq_true rfl) dX3_whole_68
  · have w65392 := cv_ne (rfl : z65351.toInt = z65351.toInt) (by decide : (2 : Int32).toInt = 2) c65352
    refine lv_aload_n hx hb dX3_whole_11 rfl (lv_at hl 0 rfl) ?_
    refine lv_iconst (v := 1) hx hb dX3_whole_12 (by decide) ?_
    refine lv_aload_n hx hb dX3_whole_13 rfl (lv_at hl 0 rfl) ?_
    refine t_get (C := RX3) (T := TX3) (N := 13) X hT m0 g0 rfl rfl 0 (by decide) qw_73 inlX3 rfl dX3_whole_14 (fun v65393 hv65393 ov65393 => ?_)
    obtain rfl : v65393 = .ref x0 := hv65393.symm.trans pf0
    refine t_get (C := RX8) (T := TX8) (N := 8) X hT mx0 gx0 rfl rfl 4 (by decide) qw_227 inlX8 rfl dX3_whole_17 (fun v65394 hv65394 ov65394 => ?_)
    obtain ⟨z65395, rfl, rz65395⟩ := okV_i ov65394
    refine t_cVv (n := 2) (C := RX3) (T := TX3) (N := 13) (As := [.int 1, .int z65395]) (rest := []) X hT (kt156_X3_fail l G tag L F hT.2.2.2 p0 1 z65395 m0 g0 (by decide)) m0 g0 rfl rfl qw_287 qw_288 qw_289 qw_28 qw_290 ⟨rfl, by decide +kernel, by decide +kernel, by decide +kernel⟩ ⟨Nat.le_of_ble_eq_true rfl, Nat.le_of_ble_eq_true rfl⟩ hl rfl rfl (Nat.le_of_ble_eq_true rfl) dX3_whole_20 ⟨Nat.le_of_ble_eq_true rfl, Nat.le_of_ble_eq_true rfl⟩ (fun F H locs hT hz65396 => ?_)
    obtain ⟨yz65396, xz65396_0⟩ := hz65396
    have pf0 := (yz65396.1 _ 0 (Or.inr (by decide)) (Or.inr (by decide))).trans pf0
    have pf1 := (yz65396.1 _ 1 (Or.inr (by decide)) (Or.inr (by decide))).trans pf1
    have pf2 := (yz65396.1 _ 2 (Or.inr (by decide)) (Or.inr (by decide))).trans pf2
    have pf3 := (yz65396.1 _ 0 (Or.inr (by decide)) (Or.inr (by decide))).trans pf3
    have pf4 := (yz65396.1 _ 10 (Or.inr (by decide)) (Or.inr (by decide))).trans pf4
    have pf5 := (yz65396.1 _ 11 (Or.inr (by decide)) (Or.inr (by decide))).trans pf5
    have hv65350 := (yz65396.1 _ 3 (Or.inl (by rw [gx0]; decide)) (Or.inr (by decide))).trans hv65350
    have hv65394 := (yz65396.1 _ 4 (Or.inr (by decide)) (Or.inl (by rw [gx0]; decide))).trans hv65394
    have hfr : (∀ b j : Nat, (tag b ≠ 24 ∨ j ≠ 2) → (tag b ≠ 24 ∨ j ≠ 3) → (tag b ≠ 24 ∨ j ≠ 4) → (tag b ≠ 24 ∨ j ≠ 5) → (tag b ≠ 24 ∨ j ≠ 6) → (tag b ≠ 24 ∨ j ≠ 7) → (tag b ≠ 25 ∨ j ≠ 3) → (tag b ≠ 25 ∨ j ≠ 4) → fld F b j = fld Fo b j) ∧ EF tag F Fo := ⟨fun b j n24_2 n24_3 n24_4 n24_5 n24_6 n24_7 n25_3 n25_4 => (yz65396.1 b j n25_3 n25_4).trans (hfr.1 b j n24_2 n24_3 n24_4 n24_5 n24_6 n24_7 n25_3 n25_4), fun b j hb => (yz65396.2 b j hb).trans (hfr.2 b j hb)⟩
    obtain ⟨z65397, qz65397, rz65397⟩ := xz65396_0
    refine lv_goto (tgt := 60) hx hb dX3_whole_23 (by decide) ?_
    refine lv_aload_n hx hb dX3_whole_60 rfl (lv_at hl 0 rfl) ?_
    refine t_get (C := RX3) (T := TX3) (N := 13) X hT m0 g0 rfl rfl 3 (by decide) qw_163 inlX3 rfl dX3_whole_61 (fun v65398 hv65398 ov65398 => ?_)
    obtain rfl : v65398 = .int z65397 := hv65398.symm.trans qz65397
    refine lv_if_eq (tgt := 69) hx hb dX3_whole_64 (by decide) (fun c65399 => ?_) (fun c65399 => ?_)
    · have w65400 := cv_eq (rfl : z65397.toInt = z65397.toInt) (by decide : (0 : Int32).toInt = 0) c65399
      exfalso
      omega
    · have w65401 := cv_ne (rfl : z65397.toInt = z65397.toInt) (by decide : (0 : Int32).toInt = 0) c65399
      refine lv_iload_n hx hb dX3_whole_67 rfl (lv_at hl 1 rfl) ?_
      exact t_iret hQ X hT (⟨(by omega), hfr⟩) (Nat.le_of_ble_eq_true rfl) (Nat.le_of_ble_eq_true rfl) dX3_whole_68
set_option maxHeartbeats 4000000 in
set_option maxRecDepth 100000 in
theorem kt168_X3_name (l : Launch) (G : KG) (tag : Nat → Nat) (L : List Nat) (Fo : Nat → va_E) (ho : okT G ttC tag L Fo) (p0 : Nat) (p1 : Int32) (x0 : Nat) (x1 : Nat) (x2 : Nat) (x3 : Nat) (x4 : Nat) (x5 : Nat) (m0 : p0 ∈ L) (g0 : tag p0 = 25) (h1 : 7 ≤ p1.toInt ∧ p1.toInt ≤ 7) (mx0 : x0 ∈ L) (gx0 : tag x0 = 24) (pf0 : fld Fo p0 0 = .ref x0) (mx1 : x1 ∈ L) (gx1 : tag x1 = 18) (pf1 : fld Fo p0 1 = .ref x1) (mx2 : x2 ∈ L) (gx2 : tag x2 = 19) (pf2 : fld Fo p0 2 = .ref x2) (mx3 : x3 ∈ L) (gx3 : tag x3 = 1) (pf3 : fld Fo x0 0 = .ref x3) (mx4 : x4 ∈ L) (gx4 : tag x4 = 14) (pf4 : fld Fo p0 10 = .ref x4) (mx5 : x5 ∈ L) (gx5 : tag x5 = 15) (pf5 : fld Fo p0 11 = .ref x5) (hrel : NSR Fo x4 x5) : TMi l yX3_name cX3_name 3 (some .int) { frames := 6, cells := 0, slots := 0, locals := 128 } G ttC tag L Fo [.ref p0, .int p1] (fun r F1 => (0 ≤ r.toInt ∧ r.toInt ≤ 5) ∧ ((∀ b j : Nat, (tag b ≠ 24 ∨ j ≠ 2) → (tag b ≠ 24 ∨ j ≠ 3) → (tag b ≠ 24 ∨ j ≠ 4) → (tag b ≠ 24 ∨ j ≠ 5) → (tag b ≠ 24 ∨ j ≠ 6) → (tag b ≠ 24 ∨ j ≠ 7) → (tag b ≠ 25 ∨ j ≠ 3) → (tag b ≠ 25 ∨ j ≠ 4) → fld F1 b j = fld Fo b j) ∧ EF tag F1 Fo) ∧ (NSR F1 x4 x5)) := by
  refine t_bodyi (y := yX3_name) (cd := cX3_name) (mL := 3) (rt := (some .int)) (rm := { frames := 6, cells := 0, slots := 0, locals := 128 }) (av := [.ref p0, .int p1]) (by decide) (Nat.le_of_ble_eq_true rfl) ho ?_
  intro p e s m args below meth c ls A Q hQ X hT hl
  have hx := X.1.1
  have hb := X.1.2.1
  have hl : lv_has ls 3 [(0, .ref p0), (1, .int p1)] := hl
  obtain ⟨F, hFo⟩ : ∃ F : Nat → va_E, F = Fo := ⟨_, rfl⟩
  rw [← hFo] at hT pf0 pf1 pf2 pf3 pf4 pf5 hrel
  have hfr : (∀ b j : Nat, (tag b ≠ 24 ∨ j ≠ 2) → (tag b ≠ 24 ∨ j ≠ 3) → (tag b ≠ 24 ∨ j ≠ 4) → (tag b ≠ 24 ∨ j ≠ 5) → (tag b ≠ 24 ∨ j ≠ 6) → (tag b ≠ 24 ∨ j ≠ 7) → (tag b ≠ 25 ∨ j ≠ 3) → (tag b ≠ 25 ∨ j ≠ 4) → fld F b j = fld Fo b j) ∧ EF tag F Fo := by
    rw [hFo]
    exact ⟨by intros; rfl, fun _ _ _ => rfl⟩
  refine lv_aload_n hx hb dX3_name_0 rfl (lv_at hl 0 rfl) ?_
  refine t_get (C := RX3) (T := TX3) (N := 13) X hT m0 g0 rfl rfl 0 (by decide) qw_73 inlX3 rfl dX3_name_1 (fun v67491 hv67491 ov67491 => ?_)
  obtain rfl : v67491 = .ref x0 := hv67491.symm.trans pf0
  refine t_get (C := RX8) (T := TX8) (N := 8) X hT mx0 gx0 rfl rfl 3 (by decide) qw_170 inlX8 rfl dX3_name_4 (fun v67492 hv67492 ov67492 => ?_)
  obtain ⟨z67493, rfl, rz67493⟩ := okV_i ov67492
  refine lv_iconst (v := 1) hx hb dX3_name_7 (by decide) ?_
  refine lv_icmp_ne (tgt := 19) hx hb dX3_name_8 (by decide) (fun c67494 => ?_) (fun c67494 => ?_)
  · have w67495 := cv_ne (rfl : z67493.toInt = z67493.toInt) (by decide : (1 : Int32).toInt = 1) c67494
    refine lv_aload_n hx hb dX3_name_19 rfl (lv_at hl 0 rfl) ?_
    refine lv_iconst (v := 1) hx hb dX3_name_20 (by decide) ?_
    refine lv_aload_n hx hb dX3_name_21 rfl (lv_at hl 0 rfl) ?_
    refine t_get (C := RX3) (T := TX3) (N := 13) X hT m0 g0 rfl rfl 0 (by decide) qw_73 inlX3 rfl dX3_name_22 (fun v67496 hv67496 ov67496 => ?_)
    obtain rfl : v67496 = .ref x0 := hv67496.symm.trans pf0
    refine t_get (C := RX8) (T := TX8) (N := 8) X hT mx0 gx0 rfl rfl 4 (by decide) qw_227 inlX8 rfl dX3_name_25 (fun v67497 hv67497 ov67497 => ?_)
    obtain ⟨z67498, rfl, rz67498⟩ := okV_i ov67497
    refine t_cVv (n := 2) (C := RX3) (T := TX3) (N := 13) (As := [.int 1, .int z67498]) (rest := []) X hT (kt156_X3_fail l G tag L F hT.2.2.2 p0 1 z67498 m0 g0 (by decide)) m0 g0 rfl rfl qw_287 qw_288 qw_289 qw_28 qw_290 ⟨rfl, by decide +kernel, by decide +kernel, by decide +kernel⟩ ⟨Nat.le_of_ble_eq_true rfl, Nat.le_of_ble_eq_true rfl⟩ hl rfl rfl (Nat.le_of_ble_eq_true rfl) dX3_name_28 ⟨Nat.le_of_ble_eq_true rfl, Nat.le_of_ble_eq_true rfl⟩ (fun F H locs hT hz67499 => ?_)
    obtain ⟨yz67499, xz67499_0⟩ := hz67499
    have pf0 := (yz67499.1 _ 0 (Or.inr (by decide)) (Or.inr (by decide))).trans pf0
    have pf1 := (yz67499.1 _ 1 (Or.inr (by decide)) (Or.inr (by decide))).trans pf1
    have pf2 := (yz67499.1 _ 2 (Or.inr (by decide)) (Or.inr (by decide))).trans pf2
    have pf3 := (yz67499.1 _ 0 (Or.inr (by decide)) (Or.inr (by decide))).trans pf3
    have pf4 := (yz67499.1 _ 10 (Or.inr (by decide)) (Or.inr (by decide))).trans pf4
    have pf5 := (yz67499.1 _ 11 (Or.inr (by decide)) (Or.inr (by decide))).trans pf5
    have hv67492 := (yz67499.1 _ 3 (Or.inl (by rw [gx0]; decide)) (Or.inr (by decide))).trans hv67492
    have hv67497 := (yz67499.1 _ 4 (Or.inr (by decide)) (Or.inl (by rw [gx0]; decide))).trans hv67497
    have hfr : (∀ b j : Nat, (tag b ≠ 24 ∨ j ≠ 2) → (tag b ≠ 24 ∨ j ≠ 3) → (tag b ≠ 24 ∨ j ≠ 4) → (tag b ≠ 24 ∨ j ≠ 5) → (tag b ≠ 24 ∨ j ≠ 6) → (tag b ≠ 24 ∨ j ≠ 7) → (tag b ≠ 25 ∨ j ≠ 3) → (tag b ≠ 25 ∨ j ≠ 4) → fld F b j = fld Fo b j) ∧ EF tag F Fo := ⟨fun b j n24_2 n24_3 n24_4 n24_5 n24_6 n24_7 n25_3 n25_4 => (yz67499.1 b j n25_3 n25_4).trans (hfr.1 b j n24_2 n24_3 n24_4 n24_5 n24_6 n24_7 n25_3 n25_4), fun b j hb => (yz67499.2 b j hb).trans (hfr.2 b j hb)⟩
    have hrel := nsr_of (fun j => yz67499.2 _ j (Or.inl gx4)) (fun j => yz67499.2 _ j (Or.inr gx5)) hrel
    obtain ⟨z67500, qz67500, rz67500⟩ := xz67499_0
    refine lv_aload_n hx hb dX3_name_31 rfl (lv_at hl 0 rfl) ?_
    refine t_cVi (n := 0) (C := RX3) (T := TX3) (N := 13) (As := []) (rest := []) X hT (kt159_X3_findName l G tag L F hT.2.2.2 p0 x0 x1 x2 x3 x4 x5 m0 g0 mx0 gx0 pf0 mx1 gx1 pf1 mx2 gx2 pf2 mx3 gx3 pf3 mx4 gx4 pf4 mx5 gx5 pf5) m0 g0 rfl rfl qw_361 qw_362 qw_363 qw_28 qw_364 ⟨rfl, by decide +kernel, by decide +kernel, by decide +kernel⟩ ⟨Nat.le_of_ble_eq_true rfl, Nat.le_of_ble_eq_true rfl⟩ hl rfl rfl (Nat.le_of_ble_eq_true rfl) dX3_name_32 ⟨Nat.le_of_ble_eq_true rfl, Nat.le_of_ble_eq_true rfl⟩ (fun z67501 F9 H locs hT hz67501 => ?_)
    obtain ⟨fz67501, hz67501⟩ := hz67501
    rw [fz67501] at hT
    refine lv_istore_n (lv' := [(2, .int z67501), (0, .ref p0), (1, .int p1)]) hx hb dX3_name_35 rfl hl (by decide) rfl (fun ls hl => ?_)
    refine lv_iload_n hx hb dX3_name_36 rfl (lv_at hl 0 rfl) ?_
    refine lv_iconst (v := (-1)) hx hb dX3_name_37 (by decide) ?_
    refine lv_icmp_eq (tgt := 51) hx hb dX3_name_38 (by decide) (fun c67502 => ?_) (fun c67502 => ?_)
    · have w67503 := cv_eq (rfl : z67501.toInt = z67501.toInt) (by decide : ((-1) : Int32).toInt = (-1)) c67502
      refine lv_aload_n hx hb dX3_name_51 rfl (lv_at hl 1 rfl) ?_
      refine lv_iconst (v := 2) hx hb dX3_name_52 (by decide) ?_
      refine lv_aload_n hx hb dX3_name_53 rfl (lv_at hl 1 rfl) ?_
      refine t_get (C := RX3) (T := TX3) (N := 13) X hT m0 g0 rfl rfl 0 (by decide) qw_73 inlX3 rfl dX3_name_54 (fun v67504 hv67504 ov67504 => ?_)
      obtain rfl : v67504 = .ref x0 := hv67504.symm.trans pf0
      refine t_get (C := RX8) (T := TX8) (N := 8) X hT mx0 gx0 rfl rfl 4 (by decide) qw_227 inlX8 rfl dX3_name_57 (fun v67505 hv67505 ov67505 => ?_)
      obtain rfl : v67505 = .int z67498 := hv67505.symm.trans hv67497
      refine t_cVv (n := 2) (C := RX3) (T := TX3) (N := 13) (As := [.int 2, .int z67498]) (rest := []) X hT (kt156_X3_fail l G tag L F hT.2.2.2 p0 2 z67498 m0 g0 (by decide)) m0 g0 rfl rfl qw_287 qw_288 qw_289 qw_28 qw_290 ⟨rfl, by decide +kernel, by decide +kernel, by decide +kernel⟩ ⟨Nat.le_of_ble_eq_true rfl, Nat.le_of_ble_eq_true rfl⟩ hl rfl rfl (Nat.le_of_ble_eq_true rfl) dX3_name_60 ⟨Nat.le_of_ble_eq_true rfl, Nat.le_of_ble_eq_true rfl⟩ (fun F H locs hT hz67506 => ?_)
      obtain ⟨yz67506, xz67506_0⟩ := hz67506
      have pf0 := (yz67506.1 _ 0 (Or.inr (by decide)) (Or.inr (by decide))).trans pf0
      have pf1 := (yz67506.1 _ 1 (Or.inr (by decide)) (Or.inr (by decide))).trans pf1
      have pf2 := (yz67506.1 _ 2 (Or.inr (by decide)) (Or.inr (by decide))).trans pf2
      have pf3 := (yz67506.1 _ 0 (Or.inr (by decide)) (Or.inr (by decide))).trans pf3
      have pf4 := (yz67506.1 _ 10 (Or.inr (by decide)) (Or.inr (by decide))).trans pf4
      have pf5 := (yz67506.1 _ 11 (Or.inr (by decide)) (Or.inr (by decide))).trans pf5
      have hv67492 := (yz67506.1 _ 3 (Or.inl (by rw [gx0]; decide)) (Or.inr (by decide))).trans hv67492
      have hv67497 := (yz67506.1 _ 4 (Or.inr (by decide)) (Or.inl (by rw [gx0]; decide))).trans hv67497
      have hfr : (∀ b j : Nat, (tag b ≠ 24 ∨ j ≠ 2) → (tag b ≠ 24 ∨ j ≠ 3) → (tag b ≠ 24 ∨ j ≠ 4) → (tag b ≠ 24 ∨ j ≠ 5) → (tag b ≠ 24 ∨ j ≠ 6) → (tag b ≠ 24 ∨ j ≠ 7) → (tag b ≠ 25 ∨ j ≠ 3) → (tag b ≠ 25 ∨ j ≠ 4) → fld F b j = fld Fo b j) ∧ EF tag F Fo := ⟨fun b j n24_2 n24_3 n24_4 n24_5 n24_6 n24_7 n25_3 n25_4 => (yz67506.1 b j n25_3 n25_4).trans (hfr.1 b j n24_2 n24_3 n24_4 n24_5 n24_6 n24_7 n25_3 n25_4), fun b j hb => (yz67506.2 b j hb).trans (hfr.2 b j hb)⟩
      have hrel := nsr_of (fun j => yz67506.2 _ j (Or.inl gx4)) (fun j => yz67506.2 _ j (Or.inr gx5)) hrel
      obtain ⟨z67507, qz67507, rz67507⟩ := xz67506_0
      refine lv_aload_n hx hb dX3_name_63 rfl (lv_at hl 1 rfl) ?_
      refine t_get (C := RX3) (T := TX3) (N := 13) X hT m0 g0 rfl rfl 3 (by decide) qw_163 inlX3 rfl dX3_name_64 (fun v67508 hv67508 ov67508 => ?_)
      obtain rfl : v67508 = .int z67507 := hv67508.symm.trans qz67507
      refine lv_if_ne (tgt := 75) hx hb dX3_name_67 (by decide) (fun c67509 => ?_) (fun c67509 => ?_)
      · have w67510 := cv_ne (rfl : z67507.toInt = z67507.toInt) (by decide : (0 : Int32).toInt = 0) c67509
        refine lv_iconst (v := 0) hx hb dX3_name_75 (by decide) ?_
        exact t_iret hQ X hT (⟨(by decide), hfr, hrel⟩) (Nat.le_of_ble_eq_true rfl) (Nat.le_of_ble_eq_true rfl) dX3_name_76
      · have w67511 := cv_eq (rfl : z67507.toInt = z67507.toInt) (by decide : (0 : Int32).toInt = 0) c67509
        exfalso
        omega
    · have w67512 := cv_ne (rfl : z67501.toInt = z67501.toInt) (by decide : ((-1) : Int32).toInt = (-1)) c67502
      refine lv_aload_n hx hb dX3_name_41 rfl (lv_at hl 1 rfl) ?_
      refine t_get (C := RX3) (T := TX3) (N := 13) X hT m0 g0 rfl rfl 10 (by decide) qw_75 inlX3 rfl dX3_name_42 (fun v67513 hv67513 ov67513 => ?_)
      obtain rfl : v67513 = .ref x4 := hv67513.symm.trans pf4
      refine lv_iload_n hx hb dX3_name_45 rfl (lv_at hl 0 rfl) ?_
      refine t_ild X hT mx4 gx4 rfl (by omega) dX3_name_46 (fun z67514 vz67514 rz67514 => ?_)
      have rz67514 : (-2147483648) ≤ z67514.toInt ∧ z67514.toInt ≤ 2147483647 := rz67514
      refine lv_iload_n hx hb dX3_name_47 rfl (lv_at hl 2 rfl) ?_
      refine lv_icmp_eq (tgt := 63) hx hb dX3_name_48 (by decide) (fun c67515 => ?_) (fun c67515 => ?_)
      · have w67516 := cv_eq (rfl : z67514.toInt = z67514.toInt) (rfl : p1.toInt = p1.toInt) c67515
        refine lv_aload_n hx hb dX3_name_63 rfl (lv_at hl 1 rfl) ?_
        refine t_get (C := RX3) (T := TX3) (N := 13) X hT m0 g0 rfl rfl 3 (by decide) qw_163 inlX3 rfl dX3_name_64 (fun v67517 hv67517 ov67517 => ?_)
        obtain rfl : v67517 = .int z67500 := hv67517.symm.trans qz67500
        refine lv_if_ne (tgt := 75) hx hb dX3_name_67 (by decide) (fun c67518 => ?_) (fun c67518 => ?_)
        · have w67519 := cv_ne (rfl : z67500.toInt = z67500.toInt) (by decide : (0 : Int32).toInt = 0) c67518
          refine lv_iconst (v := 0) hx hb dX3_name_75 (by decide) ?_
          exact t_iret hQ X hT (⟨(by decide), hfr, hrel⟩) (Nat.le_of_ble_eq_true rfl) (Nat.le_of_ble_eq_true rfl) dX3_name_76
        · have w67520 := cv_eq (rfl : z67500.toInt = z67500.toInt) (by decide : (0 : Int32).toInt = 0) c67518
          exfalso
          omega
      · have w67521 := cv_ne (rfl : z67514.toInt = z67514.toInt) (rfl : p1.toInt = p1.toInt) c67515
        refine lv_aload_n hx hb dX3_name_51 rfl (lv_at hl 1 rfl) ?_
        refine lv_iconst (v := 2) hx hb dX3_name_52 (by decide) ?_
        refine lv_aload_n hx hb dX3_name_53 rfl (lv_at hl 1 rfl) ?_
        refine t_get (C := RX3) (T := TX3) (N := 13) X hT m0 g0 rfl rfl 0 (by decide) qw_73 inlX3 rfl dX3_name_54 (fun v67522 hv67522 ov67522 => ?_)
        obtain rfl : v67522 = .ref x0 := hv67522.symm.trans pf0
        refine t_get (C := RX8) (T := TX8) (N := 8) X hT mx0 gx0 rfl rfl 4 (by decide) qw_227 inlX8 rfl dX3_name_57 (fun v67523 hv67523 ov67523 => ?_)
        obtain rfl : v67523 = .int z67498 := hv67523.symm.trans hv67497
        refine t_cVv (n := 2) (C := RX3) (T := TX3) (N := 13) (As := [.int 2, .int z67498]) (rest := []) X hT (kt156_X3_fail l G tag L F hT.2.2.2 p0 2 z67498 m0 g0 (by decide)) m0 g0 rfl rfl qw_287 qw_288 qw_289 qw_28 qw_290 ⟨rfl, by decide +kernel, by decide +kernel, by decide +kernel⟩ ⟨Nat.le_of_ble_eq_true rfl, Nat.le_of_ble_eq_true rfl⟩ hl rfl rfl (Nat.le_of_ble_eq_true rfl) dX3_name_60 ⟨Nat.le_of_ble_eq_true rfl, Nat.le_of_ble_eq_true rfl⟩ (fun F H locs hT hz67524 => ?_)
        obtain ⟨yz67524, xz67524_0⟩ := hz67524
        have pf0 := (yz67524.1 _ 0 (Or.inr (by decide)) (Or.inr (by decide))).trans pf0
        have pf1 := (yz67524.1 _ 1 (Or.inr (by decide)) (Or.inr (by decide))).trans pf1
        have pf2 := (yz67524.1 _ 2 (Or.inr (by decide)) (Or.inr (by decide))).trans pf2
        have pf3 := (yz67524.1 _ 0 (Or.inr (by decide)) (Or.inr (by decide))).trans pf3
        have pf4 := (yz67524.1 _ 10 (Or.inr (by decide)) (Or.inr (by decide))).trans pf4
        have pf5 := (yz67524.1 _ 11 (Or.inr (by decide)) (Or.inr (by decide))).trans pf5
        have hv67492 := (yz67524.1 _ 3 (Or.inl (by rw [gx0]; decide)) (Or.inr (by decide))).trans hv67492
        have hv67497 := (yz67524.1 _ 4 (Or.inr (by decide)) (Or.inl (by rw [gx0]; decide))).trans hv67497
        have vz67514 := (yz67524.2 _ _ (Or.inl gx4)).trans vz67514
        have hfr : (∀ b j : Nat, (tag b ≠ 24 ∨ j ≠ 2) → (tag b ≠ 24 ∨ j ≠ 3) → (tag b ≠ 24 ∨ j ≠ 4) → (tag b ≠ 24 ∨ j ≠ 5) → (tag b ≠ 24 ∨ j ≠ 6) → (tag b ≠ 24 ∨ j ≠ 7) → (tag b ≠ 25 ∨ j ≠ 3) → (tag b ≠ 25 ∨ j ≠ 4) → fld F b j = fld Fo b j) ∧ EF tag F Fo := ⟨fun b j n24_2 n24_3 n24_4 n24_5 n24_6 n24_7 n25_3 n25_4 => (yz67524.1 b j n25_3 n25_4).trans (hfr.1 b j n24_2 n24_3 n24_4 n24_5 n24_6 n24_7 n25_3 n25_4), fun b j hb => (yz67524.2 b j hb).trans (hfr.2 b j hb)⟩
        have hrel := nsr_of (fun j => yz67524.2 _ j (Or.inl gx4)) (fun j => yz67524.2 _ j (Or.inr gx5)) hrel
        obtain ⟨z67525, qz67525, rz67525⟩ := xz67524_0
        refine lv_aload_n hx hb dX3_name_63 rfl (lv_at hl 1 rfl) ?_
        refine t_get (C := RX3) (T := TX3) (N := 13) X hT m0 g0 rfl rfl 3 (by decide) qw_163 inlX3 rfl dX3_name_64 (fun v67526 hv67526 ov67526 => ?_)
        obtain rfl : v67526 = .int z67525 := hv67526.symm.trans qz67525
        refine lv_if_ne (tgt := 75) hx hb dX3_name_67 (by decide) (fun c67527 => ?_) (fun c67527 => ?_)
        · have w67528 := cv_ne (rfl : z67525.toInt = z67525.toInt) (by decide : (0 : Int32).toInt = 0) c67527
          refine lv_iconst (v := 0) hx hb dX3_name_75 (by decide) ?_
          exact t_iret hQ X hT (⟨(by decide), hfr, hrel⟩) (Nat.le_of_ble_eq_true rfl) (Nat.le_of_ble_eq_true rfl) dX3_name_76
        · have w67529 := cv_eq (rfl : z67525.toInt = z67525.toInt) (by decide : (0 : Int32).toInt = 0) c67527
          exfalso
          omega
  · have w67530 := cv_eq (rfl : z67493.toInt = z67493.toInt) (by decide : (1 : Int32).toInt = 1) c67494
    refine lv_aload_n hx hb dX3_name_11 rfl (lv_at hl 0 rfl) ?_
    refine t_cVi (n := 0) (C := RX3) (T := TX3) (N := 13) (As := []) (rest := []) X hT (kt108_X3_lineSort l G tag L F hT.2.2.2 p0 x0 x1 x2 x3 x4 x5 m0 g0 mx0 gx0 pf0 mx1 gx1 pf1 mx2 gx2 pf2 mx3 gx3 pf3 mx4 gx4 pf4 mx5 gx5 pf5) m0 g0 rfl rfl qw_230 qw_231 qw_232 qw_28 qw_233 ⟨rfl, by decide +kernel, by decide +kernel, by decide +kernel⟩ ⟨Nat.le_of_ble_eq_true rfl, Nat.le_of_ble_eq_true rfl⟩ hl rfl rfl (Nat.le_of_ble_eq_true rfl) dX3_name_12 ⟨Nat.le_of_ble_eq_true rfl, Nat.le_of_ble_eq_true rfl⟩ (fun z67531 F9 H locs hT hz67531 => ?_)
    obtain ⟨fz67531, hz67531⟩ := hz67531
    rw [fz67531] at hT
    refine lv_iconst (v := (-1)) hx hb dX3_name_15 (by decide) ?_
    refine lv_icmp_eq (tgt := 31) hx hb dX3_name_16 (by decide) (fun c67532 => ?_) (fun c67532 => ?_)
    · have w67533 := cv_eq (rfl : z67531.toInt = z67531.toInt) (by decide : ((-1) : Int32).toInt = (-1)) c67532
      refine lv_aload_n hx hb dX3_name_31 rfl (lv_at hl 0 rfl) ?_
      refine t_cVi (n := 0) (C := RX3) (T := TX3) (N := 13) (As := []) (rest := []) X hT (kt159_X3_findName l G tag L F hT.2.2.2 p0 x0 x1 x2 x3 x4 x5 m0 g0 mx0 gx0 pf0 mx1 gx1 pf1 mx2 gx2 pf2 mx3 gx3 pf3 mx4 gx4 pf4 mx5 gx5 pf5) m0 g0 rfl rfl qw_361 qw_362 qw_363 qw_28 qw_364 ⟨rfl, by decide +kernel, by decide +kernel, by decide +kernel⟩ ⟨Nat.le_of_ble_eq_true rfl, Nat.le_of_ble_eq_true rfl⟩ hl rfl rfl (Nat.le_of_ble_eq_true rfl) dX3_name_32 ⟨Nat.le_of_ble_eq_true rfl, Nat.le_of_ble_eq_true rfl⟩ (fun z67534 F9 H locs hT hz67534 => ?_)
      obtain ⟨fz67534, hz67534⟩ := hz67534
      rw [fz67534] at hT
      refine lv_istore_n (lv' := [(2, .int z67534), (0, .ref p0), (1, .int p1)]) hx hb dX3_name_35 rfl hl (by decide) rfl (fun ls hl => ?_)
      refine lv_iload_n hx hb dX3_name_36 rfl (lv_at hl 0 rfl) ?_
      refine lv_iconst (v := (-1)) hx hb dX3_name_37 (by decide) ?_
      refine lv_icmp_eq (tgt := 51) hx hb dX3_name_38 (by decide) (fun c67535 => ?_) (fun c67535 => ?_)
      · have w67536 := cv_eq (rfl : z67534.toInt = z67534.toInt) (by decide : ((-1) : Int32).toInt = (-1)) c67535
        refine lv_aload_n hx hb dX3_name_51 rfl (lv_at hl 1 rfl) ?_
        refine lv_iconst (v := 2) hx hb dX3_name_52 (by decide) ?_
        refine lv_aload_n hx hb dX3_name_53 rfl (lv_at hl 1 rfl) ?_
        refine t_get (C := RX3) (T := TX3) (N := 13) X hT m0 g0 rfl rfl 0 (by decide) qw_73 inlX3 rfl dX3_name_54 (fun v67537 hv67537 ov67537 => ?_)
        obtain rfl : v67537 = .ref x0 := hv67537.symm.trans pf0
        refine t_get (C := RX8) (T := TX8) (N := 8) X hT mx0 gx0 rfl rfl 4 (by decide) qw_227 inlX8 rfl dX3_name_57 (fun v67538 hv67538 ov67538 => ?_)
        obtain ⟨z67539, rfl, rz67539⟩ := okV_i ov67538
        refine t_cVv (n := 2) (C := RX3) (T := TX3) (N := 13) (As := [.int 2, .int z67539]) (rest := []) X hT (kt156_X3_fail l G tag L F hT.2.2.2 p0 2 z67539 m0 g0 (by decide)) m0 g0 rfl rfl qw_287 qw_288 qw_289 qw_28 qw_290 ⟨rfl, by decide +kernel, by decide +kernel, by decide +kernel⟩ ⟨Nat.le_of_ble_eq_true rfl, Nat.le_of_ble_eq_true rfl⟩ hl rfl rfl (Nat.le_of_ble_eq_true rfl) dX3_name_60 ⟨Nat.le_of_ble_eq_true rfl, Nat.le_of_ble_eq_true rfl⟩ (fun F H locs hT hz67540 => ?_)
        obtain ⟨yz67540, xz67540_0⟩ := hz67540
        have pf0 := (yz67540.1 _ 0 (Or.inr (by decide)) (Or.inr (by decide))).trans pf0
        have pf1 := (yz67540.1 _ 1 (Or.inr (by decide)) (Or.inr (by decide))).trans pf1
        have pf2 := (yz67540.1 _ 2 (Or.inr (by decide)) (Or.inr (by decide))).trans pf2
        have pf3 := (yz67540.1 _ 0 (Or.inr (by decide)) (Or.inr (by decide))).trans pf3
        have pf4 := (yz67540.1 _ 10 (Or.inr (by decide)) (Or.inr (by decide))).trans pf4
        have pf5 := (yz67540.1 _ 11 (Or.inr (by decide)) (Or.inr (by decide))).trans pf5
        have hv67492 := (yz67540.1 _ 3 (Or.inl (by rw [gx0]; decide)) (Or.inr (by decide))).trans hv67492
        have hv67538 := (yz67540.1 _ 4 (Or.inr (by decide)) (Or.inl (by rw [gx0]; decide))).trans hv67538
        have hfr : (∀ b j : Nat, (tag b ≠ 24 ∨ j ≠ 2) → (tag b ≠ 24 ∨ j ≠ 3) → (tag b ≠ 24 ∨ j ≠ 4) → (tag b ≠ 24 ∨ j ≠ 5) → (tag b ≠ 24 ∨ j ≠ 6) → (tag b ≠ 24 ∨ j ≠ 7) → (tag b ≠ 25 ∨ j ≠ 3) → (tag b ≠ 25 ∨ j ≠ 4) → fld F b j = fld Fo b j) ∧ EF tag F Fo := ⟨fun b j n24_2 n24_3 n24_4 n24_5 n24_6 n24_7 n25_3 n25_4 => (yz67540.1 b j n25_3 n25_4).trans (hfr.1 b j n24_2 n24_3 n24_4 n24_5 n24_6 n24_7 n25_3 n25_4), fun b j hb => (yz67540.2 b j hb).trans (hfr.2 b j hb)⟩
        have hrel := nsr_of (fun j => yz67540.2 _ j (Or.inl gx4)) (fun j => yz67540.2 _ j (Or.inr gx5)) hrel
        obtain ⟨z67541, qz67541, rz67541⟩ := xz67540_0
        refine lv_aload_n hx hb dX3_name_63 rfl (lv_at hl 1 rfl) ?_
        refine t_get (C := RX3) (T := TX3) (N := 13) X hT m0 g0 rfl rfl 3 (by decide) qw_163 inlX3 rfl dX3_name_64 (fun v67542 hv67542 ov67542 => ?_)
        obtain rfl : v67542 = .int z67541 := hv67542.symm.trans qz67541
        refine lv_if_ne (tgt := 75) hx hb dX3_name_67 (by decide) (fun c67543 => ?_) (fun c67543 => ?_)
        · have w67544 := cv_ne (rfl : z67541.toInt = z67541.toInt) (by decide : (0 : Int32).toInt = 0) c67543
          refine lv_iconst (v := 0) hx hb dX3_name_75 (by decide) ?_
          exact t_iret hQ X hT (⟨(by decide), hfr, hrel⟩) (Nat.le_of_ble_eq_true rfl) (Nat.le_of_ble_eq_true rfl) dX3_name_76
        · have w67545 := cv_eq (rfl : z67541.toInt = z67541.toInt) (by decide : (0 : Int32).toInt = 0) c67543
          exfalso
          omega
      · have w67546 := cv_ne (rfl : z67534.toInt = z67534.toInt) (by decide : ((-1) : Int32).toInt = (-1)) c67535
        refine lv_aload_n hx hb dX3_name_41 rfl (lv_at hl 1 rfl) ?_
        refine t_get (C := RX3) (T := TX3) (N := 13) X hT m0 g0 rfl rfl 10 (by decide) qw_75 inlX3 rfl dX3_name_42 (fun v67547 hv67547 ov67547 => ?_)
        obtain rfl : v67547 = .ref x4 := hv67547.symm.trans pf4
        refine lv_iload_n hx hb dX3_name_45 rfl (lv_at hl 0 rfl) ?_
        refine t_ild X hT mx4 gx4 rfl (by omega) dX3_name_46 (fun z67548 vz67548 rz67548 => ?_)
        have rz67548 : (-2147483648) ≤ z67548.toInt ∧ z67548.toInt ≤ 2147483647 := rz67548
        refine lv_iload_n hx hb dX3_name_47 rfl (lv_at hl 2 rfl) ?_
        refine lv_icmp_eq (tgt := 63) hx hb dX3_name_48 (by decide) (fun c67549 => ?_) (fun c67549 => ?_)
        · have w67550 := cv_eq (rfl : z67548.toInt = z67548.toInt) (rfl : p1.toInt = p1.toInt) c67549
          refine lv_aload_n hx hb dX3_name_63 rfl (lv_at hl 1 rfl) ?_
          refine t_get (C := RX3) (T := TX3) (N := 13) X hT m0 g0 rfl rfl 3 (by decide) qw_163 inlX3 rfl dX3_name_64 (fun v67551 hv67551 ov67551 => ?_)
          obtain ⟨z67552, rfl, rz67552⟩ := okV_i ov67551
          refine lv_if_ne (tgt := 75) hx hb dX3_name_67 (by decide) (fun c67553 => ?_) (fun c67553 => ?_)
          · have w67554 := cv_ne (rfl : z67552.toInt = z67552.toInt) (by decide : (0 : Int32).toInt = 0) c67553
            refine lv_iconst (v := 0) hx hb dX3_name_75 (by decide) ?_
            exact t_iret hQ X hT (⟨(by decide), hfr, hrel⟩) (Nat.le_of_ble_eq_true rfl) (Nat.le_of_ble_eq_true rfl) dX3_name_76
          · have w67555 := cv_eq (rfl : z67552.toInt = z67552.toInt) (by decide : (0 : Int32).toInt = 0) c67553
            refine lv_iload_n hx hb dX3_name_70 rfl (lv_at hl 0 rfl) ?_
            refine lv_iconst (v := (-1)) hx hb dX3_name_71 (by decide) ?_
            refine lv_icmp_ne (tgt := 77) hx hb dX3_name_72 (by decide) (fun c67556 => ?_) (fun c67556 => ?_)
            · have w67557 := cv_ne (rfl : z67534.toInt = z67534.toInt) (by decide : ((-1) : Int32).toInt = (-1)) c67556
              refine lv_aload_n hx hb dX3_name_77 rfl (lv_at hl 1 rfl) ?_
              refine t_get (C := RX3) (T := TX3) (N := 13) X hT m0 g0 rfl rfl 0 (by decide) qw_73 inlX3 rfl dX3_name_78 (fun v67558 hv67558 ov67558 => ?_)
              obtain rfl : v67558 = .ref x0 := hv67558.symm.trans pf0
              refine t_cVv (n := 0) (C := RX8) (T := TX8) (N := 8) (As := []) (rest := []) X hT (kt98_X8_advance l G tag L F hT.2.2.2 x0 x3 mx0 gx0 mx3 gx3 pf3) mx0 gx0 rfl rfl qw_305 qw_197 qw_198 qw_72 qw_199 ⟨rfl, by decide +kernel, by decide +kernel, by decide +kernel⟩ ⟨Nat.le_of_ble_eq_true rfl, Nat.le_of_ble_eq_true rfl⟩ hl rfl rfl (Nat.le_of_ble_eq_true rfl) dX3_name_81 ⟨Nat.le_of_ble_eq_true rfl, Nat.le_of_ble_eq_true rfl⟩ (fun F H locs hT hz67559 => ?_)
              have yz67559 := hz67559
              have pf0 := (yz67559.1 _ 0 (Or.inr (by decide)) (Or.inr (by decide)) (Or.inr (by decide)) (Or.inr (by decide)) (Or.inr (by decide)) (Or.inr (by decide))).trans pf0
              have pf1 := (yz67559.1 _ 1 (Or.inr (by decide)) (Or.inr (by decide)) (Or.inr (by decide)) (Or.inr (by decide)) (Or.inr (by decide)) (Or.inr (by decide))).trans pf1
              have pf2 := (yz67559.1 _ 2 (Or.inl (by rw [g0]; decide)) (Or.inr (by decide)) (Or.inr (by decide)) (Or.inr (by decide)) (Or.inr (by decide)) (Or.inr (by decide))).trans pf2
              have pf3 := (yz67559.1 _ 0 (Or.inr (by decide)) (Or.inr (by decide)) (Or.inr (by decide)) (Or.inr (by decide)) (Or.inr (by decide)) (Or.inr (by decide))).trans pf3
              have pf4 := (yz67559.1 _ 10 (Or.inr (by decide)) (Or.inr (by decide)) (Or.inr (by decide)) (Or.inr (by decide)) (Or.inr (by decide)) (Or.inr (by decide))).trans pf4
              have pf5 := (yz67559.1 _ 11 (Or.inr (by decide)) (Or.inr (by decide)) (Or.inr (by decide)) (Or.inr (by decide)) (Or.inr (by decide)) (Or.inr (by decide))).trans pf5
              have vz67548 := (yz67559.2 _ _ (Or.inl gx4)).trans vz67548
              have hv67551 := (yz67559.1 _ 3 (Or.inr (by decide)) (Or.inl (by rw [g0]; decide)) (Or.inr (by decide)) (Or.inr (by decide)) (Or.inr (by decide)) (Or.inr (by decide))).trans hv67551
              have hfr : (∀ b j : Nat, (tag b ≠ 24 ∨ j ≠ 2) → (tag b ≠ 24 ∨ j ≠ 3) → (tag b ≠ 24 ∨ j ≠ 4) → (tag b ≠ 24 ∨ j ≠ 5) → (tag b ≠ 24 ∨ j ≠ 6) → (tag b ≠ 24 ∨ j ≠ 7) → (tag b ≠ 25 ∨ j ≠ 3) → (tag b ≠ 25 ∨ j ≠ 4) → fld F b j = fld Fo b j) ∧ EF tag F Fo := ⟨fun b j n24_2 n24_3 n24_4 n24_5 n24_6 n24_7 n25_3 n25_4 => (yz67559.1 b j n24_2 n24_3 n24_4 n24_5 n24_6 n24_7).trans (hfr.1 b j n24_2 n24_3 n24_4 n24_5 n24_6 n24_7 n25_3 n25_4), fun b j hb => (yz67559.2 b j hb).trans (hfr.2 b j hb)⟩
              have hrel := nsr_of (fun j => yz67559.2 _ j (Or.inl gx4)) (fun j => yz67559.2 _ j (Or.inr gx5)) hrel
              refine lv_aload_n hx hb dX3_name_84 rfl (lv_at hl 1 rfl) ?_
              refine t_get (C := RX3) (T := TX3) (N := 13) X hT m0 g0 rfl rfl 11 (by decide) qw_76 inlX3 rfl dX3_name_85 (fun v67560 hv67560 ov67560 => ?_)
              obtain rfl : v67560 = .ref x5 := hv67560.symm.trans pf5
              refine lv_iload_n hx hb dX3_name_88 rfl (lv_at hl 0 rfl) ?_
              refine t_ild X hT mx5 gx5 rfl (by omega) dX3_name_89 (fun z67561 vz67561 rz67561 => ?_)
              have rz67561 : (-2147483648) ≤ z67561.toInt ∧ z67561.toInt ≤ 2147483647 := rz67561
              have rz67561 := nsr_7 hrel vz67548 vz67561 (by omega)
              exact t_iret hQ X hT (⟨(by omega), hfr, hrel⟩) (Nat.le_of_ble_eq_true rfl) (Nat.le_of_ble_eq_true rfl) dX3_name_90
            · have w67562 := cv_eq (rfl : z67534.toInt = z67534.toInt) (by decide : ((-1) : Int32).toInt = (-1)) c67556
              exfalso
              omega
        · have w67563 := cv_ne (rfl : z67548.toInt = z67548.toInt) (rfl : p1.toInt = p1.toInt) c67549
          refine lv_aload_n hx hb dX3_name_51 rfl (lv_at hl 1 rfl) ?_
          refine lv_iconst (v := 2) hx hb dX3_name_52 (by decide) ?_
          refine lv_aload_n hx hb dX3_name_53 rfl (lv_at hl 1 rfl) ?_
          refine t_get (C := RX3) (T := TX3) (N := 13) X hT m0 g0 rfl rfl 0 (by decide) qw_73 inlX3 rfl dX3_name_54 (fun v67564 hv67564 ov67564 => ?_)
          obtain rfl : v67564 = .ref x0 := hv67564.symm.trans pf0
          refine t_get (C := RX8) (T := TX8) (N := 8) X hT mx0 gx0 rfl rfl 4 (by decide) qw_227 inlX8 rfl dX3_name_57 (fun v67565 hv67565 ov67565 => ?_)
          obtain ⟨z67566, rfl, rz67566⟩ := okV_i ov67565
          refine t_cVv (n := 2) (C := RX3) (T := TX3) (N := 13) (As := [.int 2, .int z67566]) (rest := []) X hT (kt156_X3_fail l G tag L F hT.2.2.2 p0 2 z67566 m0 g0 (by decide)) m0 g0 rfl rfl qw_287 qw_288 qw_289 qw_28 qw_290 ⟨rfl, by decide +kernel, by decide +kernel, by decide +kernel⟩ ⟨Nat.le_of_ble_eq_true rfl, Nat.le_of_ble_eq_true rfl⟩ hl rfl rfl (Nat.le_of_ble_eq_true rfl) dX3_name_60 ⟨Nat.le_of_ble_eq_true rfl, Nat.le_of_ble_eq_true rfl⟩ (fun F H locs hT hz67567 => ?_)
          obtain ⟨yz67567, xz67567_0⟩ := hz67567
          have pf0 := (yz67567.1 _ 0 (Or.inr (by decide)) (Or.inr (by decide))).trans pf0
          have pf1 := (yz67567.1 _ 1 (Or.inr (by decide)) (Or.inr (by decide))).trans pf1
          have pf2 := (yz67567.1 _ 2 (Or.inr (by decide)) (Or.inr (by decide))).trans pf2
          have pf3 := (yz67567.1 _ 0 (Or.inr (by decide)) (Or.inr (by decide))).trans pf3
          have pf4 := (yz67567.1 _ 10 (Or.inr (by decide)) (Or.inr (by decide))).trans pf4
          have pf5 := (yz67567.1 _ 11 (Or.inr (by decide)) (Or.inr (by decide))).trans pf5
          have hv67492 := (yz67567.1 _ 3 (Or.inl (by rw [gx0]; decide)) (Or.inr (by decide))).trans hv67492
          have vz67548 := (yz67567.2 _ _ (Or.inl gx4)).trans vz67548
          have hv67565 := (yz67567.1 _ 4 (Or.inr (by decide)) (Or.inl (by rw [gx0]; decide))).trans hv67565
          have hfr : (∀ b j : Nat, (tag b ≠ 24 ∨ j ≠ 2) → (tag b ≠ 24 ∨ j ≠ 3) → (tag b ≠ 24 ∨ j ≠ 4) → (tag b ≠ 24 ∨ j ≠ 5) → (tag b ≠ 24 ∨ j ≠ 6) → (tag b ≠ 24 ∨ j ≠ 7) → (tag b ≠ 25 ∨ j ≠ 3) → (tag b ≠ 25 ∨ j ≠ 4) → fld F b j = fld Fo b j) ∧ EF tag F Fo := ⟨fun b j n24_2 n24_3 n24_4 n24_5 n24_6 n24_7 n25_3 n25_4 => (yz67567.1 b j n25_3 n25_4).trans (hfr.1 b j n24_2 n24_3 n24_4 n24_5 n24_6 n24_7 n25_3 n25_4), fun b j hb => (yz67567.2 b j hb).trans (hfr.2 b j hb)⟩
          have hrel := nsr_of (fun j => yz67567.2 _ j (Or.inl gx4)) (fun j => yz67567.2 _ j (Or.inr gx5)) hrel
          obtain ⟨z67568, qz67568, rz67568⟩ := xz67567_0
          refine lv_aload_n hx hb dX3_name_63 rfl (lv_at hl 1 rfl) ?_
          refine t_get (C := RX3) (T := TX3) (N := 13) X hT m0 g0 rfl rfl 3 (by decide) qw_163 inlX3 rfl dX3_name_64 (fun v67569 hv67569 ov67569 => ?_)
          obtain rfl : v67569 = .int z67568 := hv67569.symm.trans qz67568
          refine lv_if_ne (tgt := 75) hx hb dX3_name_67 (by decide) (fun c67570 => ?_) (fun c67570 => ?_)
          · have w67571 := cv_ne (rfl : z67568.toInt = z67568.toInt) (by decide : (0 : Int32).toInt = 0) c67570
            refine lv_iconst (v := 0) hx hb dX3_name_75 (by decide) ?_
            exact t_iret hQ X hT (⟨(by decide), hfr, hrel⟩) (Nat.le_of_ble_eq_true rfl) (Nat.le_of_ble_eq_true rfl) dX3_name_76
          · have w67572 := cv_eq (rfl : z67568.toInt = z67568.toInt) (by decide : (0 : Int32).toInt = 0) c67570
            exfalso
            omega
    · have w67573 := cv_ne (rfl : z67531.toInt = z67531.toInt) (by decide : ((-1) : Int32).toInt = (-1)) c67532
      refine lv_aload_n hx hb dX3_name_19 rfl (lv_at hl 0 rfl) ?_
      refine lv_iconst (v := 1) hx hb dX3_name_20 (by decide) ?_
      refine lv_aload_n hx hb dX3_name_21 rfl (lv_at hl 0 rfl) ?_
      refine t_get (C := RX3) (T := TX3) (N := 13) X hT m0 g0 rfl rfl 0 (by decide) qw_73 inlX3 rfl dX3_name_22 (fun v67574 hv67574 ov67574 => ?_)
      obtain rfl : v67574 = .ref x0 := hv67574.symm.trans pf0
      refine t_get (C := RX8) (T := TX8) (N := 8) X hT mx0 gx0 rfl rfl 4 (by decide) qw_227 inlX8 rfl dX3_name_25 (fun v67575 hv67575 ov67575 => ?_)
      obtain ⟨z67576, rfl, rz67576⟩ := okV_i ov67575
      refine t_cVv (n := 2) (C := RX3) (T := TX3) (N := 13) (As := [.int 1, .int z67576]) (rest := []) X hT (kt156_X3_fail l G tag L F hT.2.2.2 p0 1 z67576 m0 g0 (by decide)) m0 g0 rfl rfl qw_287 qw_288 qw_289 qw_28 qw_290 ⟨rfl, by decide +kernel, by decide +kernel, by decide +kernel⟩ ⟨Nat.le_of_ble_eq_true rfl, Nat.le_of_ble_eq_true rfl⟩ hl rfl rfl (Nat.le_of_ble_eq_true rfl) dX3_name_28 ⟨Nat.le_of_ble_eq_true rfl, Nat.le_of_ble_eq_true rfl⟩ (fun F H locs hT hz67577 => ?_)
      obtain ⟨yz67577, xz67577_0⟩ := hz67577
      have pf0 := (yz67577.1 _ 0 (Or.inr (by decide)) (Or.inr (by decide))).trans pf0
      have pf1 := (yz67577.1 _ 1 (Or.inr (by decide)) (Or.inr (by decide))).trans pf1
      have pf2 := (yz67577.1 _ 2 (Or.inr (by decide)) (Or.inr (by decide))).trans pf2
      have pf3 := (yz67577.1 _ 0 (Or.inr (by decide)) (Or.inr (by decide))).trans pf3
      have pf4 := (yz67577.1 _ 10 (Or.inr (by decide)) (Or.inr (by decide))).trans pf4
      have pf5 := (yz67577.1 _ 11 (Or.inr (by decide)) (Or.inr (by decide))).trans pf5
      have hv67492 := (yz67577.1 _ 3 (Or.inl (by rw [gx0]; decide)) (Or.inr (by decide))).trans hv67492
      have hv67575 := (yz67577.1 _ 4 (Or.inr (by decide)) (Or.inl (by rw [gx0]; decide))).trans hv67575
      have hfr : (∀ b j : Nat, (tag b ≠ 24 ∨ j ≠ 2) → (tag b ≠ 24 ∨ j ≠ 3) → (tag b ≠ 24 ∨ j ≠ 4) → (tag b ≠ 24 ∨ j ≠ 5) → (tag b ≠ 24 ∨ j ≠ 6) → (tag b ≠ 24 ∨ j ≠ 7) → (tag b ≠ 25 ∨ j ≠ 3) → (tag b ≠ 25 ∨ j ≠ 4) → fld F b j = fld Fo b j) ∧ EF tag F Fo := ⟨fun b j n24_2 n24_3 n24_4 n24_5 n24_6 n24_7 n25_3 n25_4 => (yz67577.1 b j n25_3 n25_4).trans (hfr.1 b j n24_2 n24_3 n24_4 n24_5 n24_6 n24_7 n25_3 n25_4), fun b j hb => (yz67577.2 b j hb).trans (hfr.2 b j hb)⟩
      have hrel := nsr_of (fun j => yz67577.2 _ j (Or.inl gx4)) (fun j => yz67577.2 _ j (Or.inr gx5)) hrel
      obtain ⟨z67578, qz67578, rz67578⟩ := xz67577_0
      refine lv_aload_n hx hb dX3_name_31 rfl (lv_at hl 0 rfl) ?_
      refine t_cVi (n := 0) (C := RX3) (T := TX3) (N := 13) (As := []) (rest := []) X hT (kt159_X3_findName l G tag L F hT.2.2.2 p0 x0 x1 x2 x3 x4 x5 m0 g0 mx0 gx0 pf0 mx1 gx1 pf1 mx2 gx2 pf2 mx3 gx3 pf3 mx4 gx4 pf4 mx5 gx5 pf5) m0 g0 rfl rfl qw_361 qw_362 qw_363 qw_28 qw_364 ⟨rfl, by decide +kernel, by decide +kernel, by decide +kernel⟩ ⟨Nat.le_of_ble_eq_true rfl, Nat.le_of_ble_eq_true rfl⟩ hl rfl rfl (Nat.le_of_ble_eq_true rfl) dX3_name_32 ⟨Nat.le_of_ble_eq_true rfl, Nat.le_of_ble_eq_true rfl⟩ (fun z67579 F9 H locs hT hz67579 => ?_)
      obtain ⟨fz67579, hz67579⟩ := hz67579
      rw [fz67579] at hT
      refine lv_istore_n (lv' := [(2, .int z67579), (0, .ref p0), (1, .int p1)]) hx hb dX3_name_35 rfl hl (by decide) rfl (fun ls hl => ?_)
      refine lv_iload_n hx hb dX3_name_36 rfl (lv_at hl 0 rfl) ?_
      refine lv_iconst (v := (-1)) hx hb dX3_name_37 (by decide) ?_
      refine lv_icmp_eq (tgt := 51) hx hb dX3_name_38 (by decide) (fun c67580 => ?_) (fun c67580 => ?_)
      · have w67581 := cv_eq (rfl : z67579.toInt = z67579.toInt) (by decide : ((-1) : Int32).toInt = (-1)) c67580
        refine lv_aload_n hx hb dX3_name_51 rfl (lv_at hl 1 rfl) ?_
        refine lv_iconst (v := 2) hx hb dX3_name_52 (by decide) ?_
        refine lv_aload_n hx hb dX3_name_53 rfl (lv_at hl 1 rfl) ?_
        refine t_get (C := RX3) (T := TX3) (N := 13) X hT m0 g0 rfl rfl 0 (by decide) qw_73 inlX3 rfl dX3_name_54 (fun v67582 hv67582 ov67582 => ?_)
        obtain rfl : v67582 = .ref x0 := hv67582.symm.trans pf0
        refine t_get (C := RX8) (T := TX8) (N := 8) X hT mx0 gx0 rfl rfl 4 (by decide) qw_227 inlX8 rfl dX3_name_57 (fun v67583 hv67583 ov67583 => ?_)
        obtain rfl : v67583 = .int z67576 := hv67583.symm.trans hv67575
        refine t_cVv (n := 2) (C := RX3) (T := TX3) (N := 13) (As := [.int 2, .int z67576]) (rest := []) X hT (kt156_X3_fail l G tag L F hT.2.2.2 p0 2 z67576 m0 g0 (by decide)) m0 g0 rfl rfl qw_287 qw_288 qw_289 qw_28 qw_290 ⟨rfl, by decide +kernel, by decide +kernel, by decide +kernel⟩ ⟨Nat.le_of_ble_eq_true rfl, Nat.le_of_ble_eq_true rfl⟩ hl rfl rfl (Nat.le_of_ble_eq_true rfl) dX3_name_60 ⟨Nat.le_of_ble_eq_true rfl, Nat.le_of_ble_eq_true rfl⟩ (fun F H locs hT hz67584 => ?_)
        obtain ⟨yz67584, xz67584_0⟩ := hz67584
        have pf0 := (yz67584.1 _ 0 (Or.inr (by decide)) (Or.inr (by decide))).trans pf0
        have pf1 := (yz67584.1 _ 1 (Or.inr (by decide)) (Or.inr (by decide))).trans pf1
        have pf2 := (yz67584.1 _ 2 (Or.inr (by decide)) (Or.inr (by decide))).trans pf2
        have pf3 := (yz67584.1 _ 0 (Or.inr (by decide)) (Or.inr (by decide))).trans pf3
        have pf4 := (yz67584.1 _ 10 (Or.inr (by decide)) (Or.inr (by decide))).trans pf4
        have pf5 := (yz67584.1 _ 11 (Or.inr (by decide)) (Or.inr (by decide))).trans pf5
        have hv67492 := (yz67584.1 _ 3 (Or.inl (by rw [gx0]; decide)) (Or.inr (by decide))).trans hv67492
        have hv67575 := (yz67584.1 _ 4 (Or.inr (by decide)) (Or.inl (by rw [gx0]; decide))).trans hv67575
        have hfr : (∀ b j : Nat, (tag b ≠ 24 ∨ j ≠ 2) → (tag b ≠ 24 ∨ j ≠ 3) → (tag b ≠ 24 ∨ j ≠ 4) → (tag b ≠ 24 ∨ j ≠ 5) → (tag b ≠ 24 ∨ j ≠ 6) → (tag b ≠ 24 ∨ j ≠ 7) → (tag b ≠ 25 ∨ j ≠ 3) → (tag b ≠ 25 ∨ j ≠ 4) → fld F b j = fld Fo b j) ∧ EF tag F Fo := ⟨fun b j n24_2 n24_3 n24_4 n24_5 n24_6 n24_7 n25_3 n25_4 => (yz67584.1 b j n25_3 n25_4).trans (hfr.1 b j n24_2 n24_3 n24_4 n24_5 n24_6 n24_7 n25_3 n25_4), fun b j hb => (yz67584.2 b j hb).trans (hfr.2 b j hb)⟩
        have hrel := nsr_of (fun j => yz67584.2 _ j (Or.inl gx4)) (fun j => yz67584.2 _ j (Or.inr gx5)) hrel
        obtain ⟨z67585, qz67585, rz67585⟩ := xz67584_0
        refine lv_aload_n hx hb dX3_name_63 rfl (lv_at hl 1 rfl) ?_
        refine t_get (C := RX3) (T := TX3) (N := 13) X hT m0 g0 rfl rfl 3 (by decide) qw_163 inlX3 rfl dX3_name_64 (fun v67586 hv67586 ov67586 => ?_)
        obtain rfl : v67586 = .int z67585 := hv67586.symm.trans qz67585
        refine lv_if_ne (tgt := 75) hx hb dX3_name_67 (by decide) (fun c67587 => ?_) (fun c67587 => ?_)
        · have w67588 := cv_ne (rfl : z67585.toInt = z67585.toInt) (by decide : (0 : Int32).toInt = 0) c67587
          refine lv_iconst (v := 0) hx hb dX3_name_75 (by decide) ?_
          exact t_iret hQ X hT (⟨(by decide), hfr, hrel⟩) (Nat.le_of_ble_eq_true rfl) (Nat.le_of_ble_eq_true rfl) dX3_name_76
        · have w67589 := cv_eq (rfl : z67585.toInt = z67585.toInt) (by decide : (0 : Int32).toInt = 0) c67587
          exfalso
          omega
      · have w67590 := cv_ne (rfl : z67579.toInt = z67579.toInt) (by decide : ((-1) : Int32).toInt = (-1)) c67580
        refine lv_aload_n hx hb dX3_name_41 rfl (lv_at hl 1 rfl) ?_
        refine t_get (C := RX3) (T := TX3) (N := 13) X hT m0 g0 rfl rfl 10 (by decide) qw_75 inlX3 rfl dX3_name_42 (fun v67591 hv67591 ov67591 => ?_)
        obtain rfl : v67591 = .ref x4 := hv67591.symm.trans pf4
        refine lv_iload_n hx hb dX3_name_45 rfl (lv_at hl 0 rfl) ?_
        refine t_ild X hT mx4 gx4 rfl (by omega) dX3_name_46 (fun z67592 vz67592 rz67592 => ?_)
        have rz67592 : (-2147483648) ≤ z67592.toInt ∧ z67592.toInt ≤ 2147483647 := rz67592
        refine lv_iload_n hx hb dX3_name_47 rfl (lv_at hl 2 rfl) ?_
        refine lv_icmp_eq (tgt := 63) hx hb dX3_name_48 (by decide) (fun c67593 => ?_) (fun c67593 => ?_)
        · have w67594 := cv_eq (rfl : z67592.toInt = z67592.toInt) (rfl : p1.toInt = p1.toInt) c67593
          refine lv_aload_n hx hb dX3_name_63 rfl (lv_at hl 1 rfl) ?_
          refine t_get (C := RX3) (T := TX3) (N := 13) X hT m0 g0 rfl rfl 3 (by decide) qw_163 inlX3 rfl dX3_name_64 (fun v67595 hv67595 ov67595 => ?_)
          obtain rfl : v67595 = .int z67578 := hv67595.symm.trans qz67578
          refine lv_if_ne (tgt := 75) hx hb dX3_name_67 (by decide) (fun c67596 => ?_) (fun c67596 => ?_)
          · have w67597 := cv_ne (rfl : z67578.toInt = z67578.toInt) (by decide : (0 : Int32).toInt = 0) c67596
            refine lv_iconst (v := 0) hx hb dX3_name_75 (by decide) ?_
            exact t_iret hQ X hT (⟨(by decide), hfr, hrel⟩) (Nat.le_of_ble_eq_true rfl) (Nat.le_of_ble_eq_true rfl) dX3_name_76
          · have w67598 := cv_eq (rfl : z67578.toInt = z67578.toInt) (by decide : (0 : Int32).toInt = 0) c67596
            exfalso
            omega
        · have w67599 := cv_ne (rfl : z67592.toInt = z67592.toInt) (rfl : p1.toInt = p1.toInt) c67593
          refine lv_aload_n hx hb dX3_name_51 rfl (lv_at hl 1 rfl) ?_
          refine lv_iconst (v := 2) hx hb dX3_name_52 (by decide) ?_
          refine lv_aload_n hx hb dX3_name_53 rfl (lv_at hl 1 rfl) ?_
          refine t_get (C := RX3) (T := TX3) (N := 13) X hT m0 g0 rfl rfl 0 (by decide) qw_73 inlX3 rfl dX3_name_54 (fun v67600 hv67600 ov67600 => ?_)
          obtain rfl : v67600 = .ref x0 := hv67600.symm.trans pf0
          refine t_get (C := RX8) (T := TX8) (N := 8) X hT mx0 gx0 rfl rfl 4 (by decide) qw_227 inlX8 rfl dX3_name_57 (fun v67601 hv67601 ov67601 => ?_)
          obtain rfl : v67601 = .int z67576 := hv67601.symm.trans hv67575
          refine t_cVv (n := 2) (C := RX3) (T := TX3) (N := 13) (As := [.int 2, .int z67576]) (rest := []) X hT (kt156_X3_fail l G tag L F hT.2.2.2 p0 2 z67576 m0 g0 (by decide)) m0 g0 rfl rfl qw_287 qw_288 qw_289 qw_28 qw_290 ⟨rfl, by decide +kernel, by decide +kernel, by decide +kernel⟩ ⟨Nat.le_of_ble_eq_true rfl, Nat.le_of_ble_eq_true rfl⟩ hl rfl rfl (Nat.le_of_ble_eq_true rfl) dX3_name_60 ⟨Nat.le_of_ble_eq_true rfl, Nat.le_of_ble_eq_true rfl⟩ (fun F H locs hT hz67602 => ?_)
          obtain ⟨yz67602, xz67602_0⟩ := hz67602
          have pf0 := (yz67602.1 _ 0 (Or.inr (by decide)) (Or.inr (by decide))).trans pf0
          have pf1 := (yz67602.1 _ 1 (Or.inr (by decide)) (Or.inr (by decide))).trans pf1
          have pf2 := (yz67602.1 _ 2 (Or.inr (by decide)) (Or.inr (by decide))).trans pf2
          have pf3 := (yz67602.1 _ 0 (Or.inr (by decide)) (Or.inr (by decide))).trans pf3
          have pf4 := (yz67602.1 _ 10 (Or.inr (by decide)) (Or.inr (by decide))).trans pf4
          have pf5 := (yz67602.1 _ 11 (Or.inr (by decide)) (Or.inr (by decide))).trans pf5
          have hv67492 := (yz67602.1 _ 3 (Or.inl (by rw [gx0]; decide)) (Or.inr (by decide))).trans hv67492
          have hv67575 := (yz67602.1 _ 4 (Or.inr (by decide)) (Or.inl (by rw [gx0]; decide))).trans hv67575
          have vz67592 := (yz67602.2 _ _ (Or.inl gx4)).trans vz67592
          have hfr : (∀ b j : Nat, (tag b ≠ 24 ∨ j ≠ 2) → (tag b ≠ 24 ∨ j ≠ 3) → (tag b ≠ 24 ∨ j ≠ 4) → (tag b ≠ 24 ∨ j ≠ 5) → (tag b ≠ 24 ∨ j ≠ 6) → (tag b ≠ 24 ∨ j ≠ 7) → (tag b ≠ 25 ∨ j ≠ 3) → (tag b ≠ 25 ∨ j ≠ 4) → fld F b j = fld Fo b j) ∧ EF tag F Fo := ⟨fun b j n24_2 n24_3 n24_4 n24_5 n24_6 n24_7 n25_3 n25_4 => (yz67602.1 b j n25_3 n25_4).trans (hfr.1 b j n24_2 n24_3 n24_4 n24_5 n24_6 n24_7 n25_3 n25_4), fun b j hb => (yz67602.2 b j hb).trans (hfr.2 b j hb)⟩
          have hrel := nsr_of (fun j => yz67602.2 _ j (Or.inl gx4)) (fun j => yz67602.2 _ j (Or.inr gx5)) hrel
          obtain ⟨z67603, qz67603, rz67603⟩ := xz67602_0
          refine lv_aload_n hx hb dX3_name_63 rfl (lv_at hl 1 rfl) ?_
          refine t_get (C := RX3) (T := TX3) (N := 13) X hT m0 g0 rfl rfl 3 (by decide) qw_163 inlX3 rfl dX3_name_64 (fun v67604 hv67604 ov67604 => ?_)
          obtain rfl : v67604 = .int z67603 := hv67604.symm.trans qz67603
          refine lv_if_ne (tgt := 75) hx hb dX3_name_67 (by decide) (fun c67605 => ?_) (fun c67605 => ?_)
          · have w67606 := cv_ne (rfl : z67603.toInt = z67603.toInt) (by decide : (0 : Int32).toInt = 0) c67605
            refine lv_iconst (v := 0) hx hb dX3_name_75 (by decide) ?_
            exact t_iret hQ X hT (⟨(by decide), hfr, hrel⟩) (Nat.le_of_ble_eq_true rfl) (Nat.le_of_ble_eq_true rfl) dX3_name_76
          · have w67607 := cv_eq (rfl : z67603.toInt = z67603.toInt) (by decide : (0 : Int32).toInt = 0) c67605
            exfalso
            omega
