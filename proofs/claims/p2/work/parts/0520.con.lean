set_option maxHeartbeats 4000000 in
set_option maxRecDepth 100000 in
theorem kt134_X3_readWater (l : Launch) (G : KG) (tag : Nat → Nat) (L : List Nat) (Fo : Nat → va_E) (ho : okT G ttC tag L Fo) (p0 : Nat) (x0 : Nat) (x1 : Nat) (x2 : Nat) (x3 : Nat) (x4 : Nat) (x5 : Nat) (m0 : p0 ∈ L) (g0 : tag p0 = 25) (mx0 : x0 ∈ L) (gx0 : tag x0 = 24) (pf0 : fld Fo p0 0 = .ref x0) (mx1 : x1 ∈ L) (gx1 : tag x1 = 18) (pf1 : fld Fo p0 1 = .ref x1) (mx2 : x2 ∈ L) (gx2 : tag x2 = 19) (pf2 : fld Fo p0 2 = .ref x2) (mx3 : x3 ∈ L) (gx3 : tag x3 = 1) (pf3 : fld Fo x0 0 = .ref x3) (mx4 : x4 ∈ L) (gx4 : tag x4 = 14) (pf4 : fld Fo p0 10 = .ref x4) (mx5 : x5 ∈ L) (gx5 : tag x5 = 15) (pf5 : fld Fo p0 11 = .ref x5) : TMv l yX3_readWater cX3_readWater 3 { frames := 4, cells := 0, slots := 0, locals := 85 } G ttC tag L Fo [.ref p0] (fun F1 => ((∀ b j : Nat, (tag b ≠ 24 ∨ j ≠ 2) → (tag b ≠ 24 ∨ j ≠ 3) → (tag b ≠ 24 ∨ j ≠ 4) → (tag b ≠ 24 ∨ j ≠ 5) → (tag b ≠ 24 ∨ j ≠ 6) → (tag b ≠ 24 ∨ j ≠ 7) → (tag b ≠ 25 ∨ j ≠ 3) → (tag b ≠ 25 ∨ j ≠ 4) → (tag b ≠ 25 ∨ j ≠ 7) → fld F1 b j = fld Fo b j) ∧ EF tag F1 Fo)) := by
  refine t_bodyv (y := yX3_readWater) (cd := cX3_readWater) (mL := 3) (rm := { frames := 4, cells := 0, slots := 0, locals := 85 }) (av := [.ref p0]) (by decide) (Nat.le_of_ble_eq_true rfl) ho ?_
  intro p e s m args below meth c ls A Q hQ X hT hl
  have hx := X.1.1
  have hb := X.1.2.1
  have hl : lv_has ls 3 [(0, .ref p0)] := hl
  obtain ⟨F, hFo⟩ : ∃ F : Nat → va_E, F = Fo := ⟨_, rfl⟩
  rw [← hFo] at hT pf0 pf1 pf2 pf3 pf4 pf5
  have hfr : (∀ b j : Nat, (tag b ≠ 24 ∨ j ≠ 2) → (tag b ≠ 24 ∨ j ≠ 3) → (tag b ≠ 24 ∨ j ≠ 4) → (tag b ≠ 24 ∨ j ≠ 5) → (tag b ≠ 24 ∨ j ≠ 6) → (tag b ≠ 24 ∨ j ≠ 7) → (tag b ≠ 25 ∨ j ≠ 3) → (tag b ≠ 25 ∨ j ≠ 4) → (tag b ≠ 25 ∨ j ≠ 7) → fld F b j = fld Fo b j) ∧ EF tag F Fo := by
    rw [hFo]
    exact ⟨by intros; rfl, fun _ _ _ => rfl⟩
  have K60 : ∀ (z51282 : Int32) (z51283 : Int32) (F : Nat → va_E) (H : Heap) (locs : List Loc) (ls : Array Slot), (0 ≤ z51282.toInt ∧ z51282.toInt ≤ 11) → (0 ≤ z51283.toInt ∧ z51283.toInt ≤ 11) → TH G ttC A s tag L F H locs → ((∀ b j : Nat, (tag b ≠ 24 ∨ j ≠ 2) → (tag b ≠ 24 ∨ j ≠ 3) → (tag b ≠ 24 ∨ j ≠ 4) → (tag b ≠ 24 ∨ j ≠ 5) → (tag b ≠ 24 ∨ j ≠ 6) → (tag b ≠ 24 ∨ j ≠ 7) → (tag b ≠ 25 ∨ j ≠ 3) → (tag b ≠ 25 ∨ j ≠ 4) → (tag b ≠ 25 ∨ j ≠ 7) → fld F b j = fld Fo b j) ∧ EF tag F Fo) → fld F p0 0 = .ref x0 → fld F p0 1 = .ref x1 → fld F p0 2 = .ref x2 → fld F x0 0 = .ref x3 → fld F p0 10 = .ref x4 → fld F p0 11 = .ref x5 → lv_has ls 3 [(0, .ref p0), (1, .int z51282), (2, .int z51283)] → W p l e { frames := 4, cells := 0, slots := 0, locals := 85 } s m args below meth c H locs 0 0 Q (F0 m 60 ls []) := by
    intro z51282 z51283 F H locs ls rz51282 rz51283 hT hfr pf0 pf1 pf2 pf3 pf4 pf5 hl
    refine lv_aload_n hx hb dX3_readWater_60 rfl (lv_at hl 0 rfl) ?_
    refine t_get (C := RX3) (T := TX3) (N := 13) X hT m0 g0 rfl rfl 1 (by decide) qw_161 inlX3 rfl dX3_readWater_61 (fun v51284 hv51284 ov51284 => ?_)
    obtain rfl : v51284 = .ref x1 := hv51284.symm.trans pf1
    refine lv_iload_n hx hb dX3_readWater_64 rfl (lv_at hl 1 rfl) ?_
    refine lv_iload_n hx hb dX3_readWater_65 rfl (lv_at hl 2 rfl) ?_
    refine t_cVv (n := 2) (C := RX1) (T := TX1) (N := 20) (As := [.int z51282, .int z51283]) (rest := []) X hT (kt8_X1_addWater l G tag L F hT.2.2.2 x1 z51282 z51283 mx1 gx1) mx1 gx1 rfl rfl qw_348 qw_349 qw_350 qw_17 qw_351 ⟨rfl, by decide +kernel, by decide +kernel, by decide +kernel⟩ ⟨Nat.le_of_ble_eq_true rfl, Nat.le_of_ble_eq_true rfl⟩ hl rfl rfl (Nat.le_of_ble_eq_true rfl) dX3_readWater_66 ⟨Nat.le_of_ble_eq_true rfl, Nat.le_of_ble_eq_true rfl⟩ (fun F H locs hT hz51285 => ?_)
    have yz51285 := hz51285
    have pf0 := (yz51285.1 _ 0 ).trans pf0
    have pf1 := (yz51285.1 _ 1 ).trans pf1
    have pf2 := (yz51285.1 _ 2 ).trans pf2
    have pf3 := (yz51285.1 _ 0 ).trans pf3
    have pf4 := (yz51285.1 _ 10 ).trans pf4
    have pf5 := (yz51285.1 _ 11 ).trans pf5
    have hfr : (∀ b j : Nat, (tag b ≠ 24 ∨ j ≠ 2) → (tag b ≠ 24 ∨ j ≠ 3) → (tag b ≠ 24 ∨ j ≠ 4) → (tag b ≠ 24 ∨ j ≠ 5) → (tag b ≠ 24 ∨ j ≠ 6) → (tag b ≠ 24 ∨ j ≠ 7) → (tag b ≠ 25 ∨ j ≠ 3) → (tag b ≠ 25 ∨ j ≠ 4) → (tag b ≠ 25 ∨ j ≠ 7) → fld F b j = fld Fo b j) ∧ EF tag F Fo := ⟨fun b j n24_2 n24_3 n24_4 n24_5 n24_6 n24_7 n25_3 n25_4 n25_7 => (yz51285.1 b j ).trans (hfr.1 b j n24_2 n24_3 n24_4 n24_5 n24_6 n24_7 n25_3 n25_4 n25_7), fun b j hb => (yz51285.2 b j hb).trans (hfr.2 b j hb)⟩
    refine lv_aload_n hx hb dX3_readWater_69 rfl (lv_at hl 0 rfl) ?_
    refine lv_dup hx hb dX3_readWater_70 rfl ?_
    refine t_get (C := RX3) (T := TX3) (N := 13) X hT m0 g0 rfl rfl 7 (by decide) qw_167 inlX3 rfl dX3_readWater_71 (fun v51286 hv51286 ov51286 => ?_)
    obtain ⟨z51287, rfl, rz51287⟩ := okV_i ov51286
    refine lv_iconst (v := 1) hx hb dX3_readWater_74 (by decide) ?_
    refine lv_iadd hx hb dX3_readWater_75 ?_
    refine lv_topi (fun z51288 ez51288 => ?_)
    have rz51288 := rg_all z51288
    refine t_put (C := RX3) (T := TX3) (N := 13) (v := .int z51288) X hT m0 g0 rfl tyX3 tyX3_ok nmX3 rfl 7 (by decide) qw_167 inlX3 rfl (by first | rfl | decide) (by first | rfl | decide) rfl (⟨_, rfl, (show (-2147483648) ≤ (z51288 : Int32).toInt from (by omega)), (show (z51288 : Int32).toInt ≤ 2147483647 from (by omega))⟩) dX3_readWater_76 (fun F H locs hT v51289 h1v51289 h2v51289 => ?_)
    have pf0 := (h1v51289 _ _ (Or.inr (by decide))).trans pf0
    have pf1 := (h1v51289 _ _ (Or.inr (by decide))).trans pf1
    have pf2 := (h1v51289 _ _ (Or.inr (by decide))).trans pf2
    have pf3 := (h1v51289 _ _ (Or.inr (by decide))).trans pf3
    have pf4 := (h1v51289 _ _ (Or.inr (by decide))).trans pf4
    have pf5 := (h1v51289 _ _ (Or.inr (by decide))).trans pf5
    have hfr : (∀ b j : Nat, (tag b ≠ 24 ∨ j ≠ 2) → (tag b ≠ 24 ∨ j ≠ 3) → (tag b ≠ 24 ∨ j ≠ 4) → (tag b ≠ 24 ∨ j ≠ 5) → (tag b ≠ 24 ∨ j ≠ 6) → (tag b ≠ 24 ∨ j ≠ 7) → (tag b ≠ 25 ∨ j ≠ 3) → (tag b ≠ 25 ∨ j ≠ 4) → (tag b ≠ 25 ∨ j ≠ 7) → fld F b j = fld Fo b j) ∧ EF tag F Fo := ⟨fun b j n24_2 n24_3 n24_4 n24_5 n24_6 n24_7 n25_3 n25_4 n25_7 => (h1v51289 b j (fr_ne g0 n25_7)).trans (hfr.1 b j n24_2 n24_3 n24_4 n24_5 n24_6 n24_7 n25_3 n25_4 n25_7), fun b j hb => (h2v51289 b j).trans (hfr.2 b j hb)⟩
    exact t_vret hQ X hT hfr (Nat.le_of_ble_eq_true rfl) (Nat.le_of_ble_eq_true rfl) dX3_readWater_79
  refine lv_aload_n hx hb dX3_readWater_0 rfl (lv_at hl 0 rfl) ?_
  refine lv_iconst (v := 0) hx hb dX3_readWater_1 (by decide) ?_
  refine lv_aload_n hx hb dX3_readWater_2 rfl (lv_at hl 0 rfl) ?_
  refine t_get (C := RX3) (T := TX3) (N := 13) X hT m0 g0 rfl rfl 1 (by decide) qw_161 inlX3 rfl dX3_readWater_3 (fun v51290 hv51290 ov51290 => ?_)
  obtain rfl : v51290 = .ref x1 := hv51290.symm.trans pf1
  refine t_get (C := RX1) (T := TX1) (N := 20) X hT mx1 gx1 rfl rfl 0 (by decide) qw_310 inlX1 rfl dX3_readWater_6 (fun v51291 hv51291 ov51291 => ?_)
  obtain ⟨z51292, rfl, rz51292⟩ := okV_i ov51291
  refine lv_iconst (v := 1) hx hb dX3_readWater_9 (by decide) ?_
  refine lv_isub hx hb dX3_readWater_10 ?_
  refine lv_topi (fun z51293 ez51293 => ?_)
  have hz51293 : z51293.toInt = z51292.toInt - 1 := ar_sub ez51293 (rfl : z51292.toInt = z51292.toInt) (by decide : (1 : Int32).toInt = 1) (by omega) (by omega)
  have rz51293 : (-1) ≤ z51293.toInt ∧ z51293.toInt ≤ 11 := by omega
  refine t_cVi (n := 2) (C := RX3) (T := TX3) (N := 13) (As := [.int 0, .int z51293]) (rest := []) X hT (kt116_X3_whole l G tag L F hT.2.2.2 p0 0 z51293 x0 x1 x2 x3 x4 x5 m0 g0 (by decide) (by omega) mx0 gx0 pf0 mx1 gx1 pf1 mx2 gx2 pf2 mx3 gx3 pf3 mx4 gx4 pf4 mx5 gx5 pf5) m0 g0 rfl rfl qw_318 qw_319 qw_320 qw_28 qw_321 ⟨rfl, by decide +kernel, by decide +kernel, by decide +kernel⟩ ⟨Nat.le_of_ble_eq_true rfl, Nat.le_of_ble_eq_true rfl⟩ hl rfl rfl (Nat.le_of_ble_eq_true rfl) dX3_readWater_11 ⟨Nat.le_of_ble_eq_true rfl, Nat.le_of_ble_eq_true rfl⟩ (fun z51294 F H locs hT hz51294 => ?_)
  obtain ⟨hz51294, yz51294⟩ := hz51294
  have pf0 := (yz51294.1 _ 0 (Or.inr (by decide)) (Or.inr (by decide)) (Or.inr (by decide)) (Or.inr (by decide)) (Or.inr (by decide)) (Or.inr (by decide)) (Or.inr (by decide)) (Or.inr (by decide))).trans pf0
  have pf1 := (yz51294.1 _ 1 (Or.inr (by decide)) (Or.inr (by decide)) (Or.inr (by decide)) (Or.inr (by decide)) (Or.inr (by decide)) (Or.inr (by decide)) (Or.inr (by decide)) (Or.inr (by decide))).trans pf1
  have pf2 := (yz51294.1 _ 2 (Or.inl (by rw [g0]; decide)) (Or.inr (by decide)) (Or.inr (by decide)) (Or.inr (by decide)) (Or.inr (by decide)) (Or.inr (by decide)) (Or.inr (by decide)) (Or.inr (by decide))).trans pf2
  have pf3 := (yz51294.1 _ 0 (Or.inr (by decide)) (Or.inr (by decide)) (Or.inr (by decide)) (Or.inr (by decide)) (Or.inr (by decide)) (Or.inr (by decide)) (Or.inr (by decide)) (Or.inr (by decide))).trans pf3
  have pf4 := (yz51294.1 _ 10 (Or.inr (by decide)) (Or.inr (by decide)) (Or.inr (by decide)) (Or.inr (by decide)) (Or.inr (by decide)) (Or.inr (by decide)) (Or.inr (by decide)) (Or.inr (by decide))).trans pf4
  have pf5 := (yz51294.1 _ 11 (Or.inr (by decide)) (Or.inr (by decide)) (Or.inr (by decide)) (Or.inr (by decide)) (Or.inr (by decide)) (Or.inr (by decide)) (Or.inr (by decide)) (Or.inr (by decide))).trans pf5
  have hv51291 := (yz51294.1 _ 0 (Or.inr (by decide)) (Or.inr (by decide)) (Or.inr (by decide)) (Or.inr (by decide)) (Or.inr (by decide)) (Or.inr (by decide)) (Or.inr (by decide)) (Or.inr (by decide))).trans hv51291
  have hfr : (∀ b j : Nat, (tag b ≠ 24 ∨ j ≠ 2) → (tag b ≠ 24 ∨ j ≠ 3) → (tag b ≠ 24 ∨ j ≠ 4) → (tag b ≠ 24 ∨ j ≠ 5) → (tag b ≠ 24 ∨ j ≠ 6) → (tag b ≠ 24 ∨ j ≠ 7) → (tag b ≠ 25 ∨ j ≠ 3) → (tag b ≠ 25 ∨ j ≠ 4) → (tag b ≠ 25 ∨ j ≠ 7) → fld F b j = fld Fo b j) ∧ EF tag F Fo := ⟨fun b j n24_2 n24_3 n24_4 n24_5 n24_6 n24_7 n25_3 n25_4 n25_7 => (yz51294.1 b j n24_2 n24_3 n24_4 n24_5 n24_6 n24_7 n25_3 n25_4).trans (hfr.1 b j n24_2 n24_3 n24_4 n24_5 n24_6 n24_7 n25_3 n25_4 n25_7), fun b j hb => (yz51294.2 b j hb).trans (hfr.2 b j hb)⟩
  refine lv_istore_n (lv' := [(1, .int z51294), (0, .ref p0)]) hx hb dX3_readWater_14 rfl hl (by decide) rfl (fun ls hl => ?_)
  refine lv_aload_n hx hb dX3_readWater_15 rfl (lv_at hl 1 rfl) ?_
  refine lv_bipush (v := 44) hx hb dX3_readWater_16 (by decide) ?_
  refine t_cVv (n := 1) (C := RX3) (T := TX3) (N := 13) (As := [.int 44]) (rest := []) X hT (kt117_X3_sign l G tag L F hT.2.2.2 p0 44 x0 x1 x2 x3 x4 x5 m0 g0 mx0 gx0 pf0 mx1 gx1 pf1 mx2 gx2 pf2 mx3 gx3 pf3 mx4 gx4 pf4 mx5 gx5 pf5) m0 g0 rfl rfl qw_340 qw_341 qw_342 qw_28 qw_343 ⟨rfl, by decide +kernel, by decide +kernel, by decide +kernel⟩ ⟨Nat.le_of_ble_eq_true rfl, Nat.le_of_ble_eq_true rfl⟩ hl rfl rfl (Nat.le_of_ble_eq_true rfl) dX3_readWater_18 ⟨Nat.le_of_ble_eq_true rfl, Nat.le_of_ble_eq_true rfl⟩ (fun F H locs hT hz51295 => ?_)
  have yz51295 := hz51295
  have pf0 := (yz51295.1 _ 0 (Or.inr (by decide)) (Or.inr (by decide)) (Or.inr (by decide)) (Or.inr (by decide)) (Or.inr (by decide)) (Or.inr (by decide)) (Or.inr (by decide)) (Or.inr (by decide))).trans pf0
  have pf1 := (yz51295.1 _ 1 (Or.inr (by decide)) (Or.inr (by decide)) (Or.inr (by decide)) (Or.inr (by decide)) (Or.inr (by decide)) (Or.inr (by decide)) (Or.inr (by decide)) (Or.inr (by decide))).trans pf1
  have pf2 := (yz51295.1 _ 2 (Or.inl (by rw [g0]; decide)) (Or.inr (by decide)) (Or.inr (by decide)) (Or.inr (by decide)) (Or.inr (by decide)) (Or.inr (by decide)) (Or.inr (by decide)) (Or.inr (by decide))).trans pf2
  have pf3 := (yz51295.1 _ 0 (Or.inr (by decide)) (Or.inr (by decide)) (Or.inr (by decide)) (Or.inr (by decide)) (Or.inr (by decide)) (Or.inr (by decide)) (Or.inr (by decide)) (Or.inr (by decide))).trans pf3
  have pf4 := (yz51295.1 _ 10 (Or.inr (by decide)) (Or.inr (by decide)) (Or.inr (by decide)) (Or.inr (by decide)) (Or.inr (by decide)) (Or.inr (by decide)) (Or.inr (by decide)) (Or.inr (by decide))).trans pf4
  have pf5 := (yz51295.1 _ 11 (Or.inr (by decide)) (Or.inr (by decide)) (Or.inr (by decide)) (Or.inr (by decide)) (Or.inr (by decide)) (Or.inr (by decide)) (Or.inr (by decide)) (Or.inr (by decide))).trans pf5
  have hv51291 := (yz51295.1 _ 0 (Or.inr (by decide)) (Or.inr (by decide)) (Or.inr (by decide)) (Or.inr (by decide)) (Or.inr (by decide)) (Or.inr (by decide)) (Or.inr (by decide)) (Or.inr (by decide))).trans hv51291
  have hfr : (∀ b j : Nat, (tag b ≠ 24 ∨ j ≠ 2) → (tag b ≠ 24 ∨ j ≠ 3) → (tag b ≠ 24 ∨ j ≠ 4) → (tag b ≠ 24 ∨ j ≠ 5) → (tag b ≠ 24 ∨ j ≠ 6) → (tag b ≠ 24 ∨ j ≠ 7) → (tag b ≠ 25 ∨ j ≠ 3) → (tag b ≠ 25 ∨ j ≠ 4) → (tag b ≠ 25 ∨ j ≠ 7) → fld F b j = fld Fo b j) ∧ EF tag F Fo := ⟨fun b j n24_2 n24_3 n24_4 n24_5 n24_6 n24_7 n25_3 n25_4 n25_7 => (yz51295.1 b j n24_2 n24_3 n24_4 n24_5 n24_6 n24_7 n25_3 n25_4).trans (hfr.1 b j n24_2 n24_3 n24_4 n24_5 n24_6 n24_7 n25_3 n25_4 n25_7), fun b j hb => (yz51295.2 b j hb).trans (hfr.2 b j hb)⟩
  refine lv_aload_n hx hb dX3_readWater_21 rfl (lv_at hl 1 rfl) ?_
  refine lv_iconst (v := 0) hx hb dX3_readWater_22 (by decide) ?_
  refine lv_aload_n hx hb dX3_readWater_23 rfl (lv_at hl 1 rfl) ?_
  refine t_get (C := RX3) (T := TX3) (N := 13) X hT m0 g0 rfl rfl 1 (by decide) qw_161 inlX3 rfl dX3_readWater_24 (fun v51296 hv51296 ov51296 => ?_)
  obtain rfl : v51296 = .ref x1 := hv51296.symm.trans pf1
  refine t_get (C := RX1) (T := TX1) (N := 20) X hT mx1 gx1 rfl rfl 1 (by decide) qw_311 inlX1 rfl dX3_readWater_27 (fun v51297 hv51297 ov51297 => ?_)
  obtain ⟨z51298, rfl, rz51298⟩ := okV_i ov51297
  refine lv_iconst (v := 1) hx hb dX3_readWater_30 (by decide) ?_
  refine lv_isub hx hb dX3_readWater_31 ?_
  refine lv_topi (fun z51299 ez51299 => ?_)
  have hz51299 : z51299.toInt = z51298.toInt - 1 := ar_sub ez51299 (rfl : z51298.toInt = z51298.toInt) (by decide : (1 : Int32).toInt = 1) (by omega) (by omega)
  have rz51299 : (-1) ≤ z51299.toInt ∧ z51299.toInt ≤ 11 := by omega
  refine t_cVi (n := 2) (C := RX3) (T := TX3) (N := 13) (As := [.int 0, .int z51299]) (rest := []) X hT (kt116_X3_whole l G tag L F hT.2.2.2 p0 0 z51299 x0 x1 x2 x3 x4 x5 m0 g0 (by decide) (by omega) mx0 gx0 pf0 mx1 gx1 pf1 mx2 gx2 pf2 mx3 gx3 pf3 mx4 gx4 pf4 mx5 gx5 pf5) m0 g0 rfl rfl qw_318 qw_319 qw_320 qw_28 qw_321 ⟨rfl, by decide +kernel, by decide +kernel, by decide +kernel⟩ ⟨Nat.le_of_ble_eq_true rfl, Nat.le_of_ble_eq_true rfl⟩ hl rfl rfl (Nat.le_of_ble_eq_true rfl) dX3_readWater_32 ⟨Nat.le_of_ble_eq_true rfl, Nat.le_of_ble_eq_true rfl⟩ (fun z51300 F H locs hT hz51300 => ?_)
  obtain ⟨hz51300, yz51300⟩ := hz51300
  have pf0 := (yz51300.1 _ 0 (Or.inr (by decide)) (Or.inr (by decide)) (Or.inr (by decide)) (Or.inr (by decide)) (Or.inr (by decide)) (Or.inr (by decide)) (Or.inr (by decide)) (Or.inr (by decide))).trans pf0
  have pf1 := (yz51300.1 _ 1 (Or.inr (by decide)) (Or.inr (by decide)) (Or.inr (by decide)) (Or.inr (by decide)) (Or.inr (by decide)) (Or.inr (by decide)) (Or.inr (by decide)) (Or.inr (by decide))).trans pf1
  have pf2 := (yz51300.1 _ 2 (Or.inl (by rw [g0]; decide)) (Or.inr (by decide)) (Or.inr (by decide)) (Or.inr (by decide)) (Or.inr (by decide)) (Or.inr (by decide)) (Or.inr (by decide)) (Or.inr (by decide))).trans pf2
  have pf3 := (yz51300.1 _ 0 (Or.inr (by decide)) (Or.inr (by decide)) (Or.inr (by decide)) (Or.inr (by decide)) (Or.inr (by decide)) (Or.inr (by decide)) (Or.inr (by decide)) (Or.inr (by decide))).trans pf3
  have pf4 := (yz51300.1 _ 10 (Or.inr (by decide)) (Or.inr (by decide)) (Or.inr (by decide)) (Or.inr (by decide)) (Or.inr (by decide)) (Or.inr (by decide)) (Or.inr (by decide)) (Or.inr (by decide))).trans pf4
  have pf5 := (yz51300.1 _ 11 (Or.inr (by decide)) (Or.inr (by decide)) (Or.inr (by decide)) (Or.inr (by decide)) (Or.inr (by decide)) (Or.inr (by decide)) (Or.inr (by decide)) (Or.inr (by decide))).trans pf5
  have hv51291 := (yz51300.1 _ 0 (Or.inr (by decide)) (Or.inr (by decide)) (Or.inr (by decide)) (Or.inr (by decide)) (Or.inr (by decide)) (Or.inr (by decide)) (Or.inr (by decide)) (Or.inr (by decide))).trans hv51291
  have hv51297 := (yz51300.1 _ 1 (Or.inr (by decide)) (Or.inr (by decide)) (Or.inr (by decide)) (Or.inr (by decide)) (Or.inr (by decide)) (Or.inr (by decide)) (Or.inr (by decide)) (Or.inr (by decide))).trans hv51297
  have hfr : (∀ b j : Nat, (tag b ≠ 24 ∨ j ≠ 2) → (tag b ≠ 24 ∨ j ≠ 3) → (tag b ≠ 24 ∨ j ≠ 4) → (tag b ≠ 24 ∨ j ≠ 5) → (tag b ≠ 24 ∨ j ≠ 6) → (tag b ≠ 24 ∨ j ≠ 7) → (tag b ≠ 25 ∨ j ≠ 3) → (tag b ≠ 25 ∨ j ≠ 4) → (tag b ≠ 25 ∨ j ≠ 7) → fld F b j = fld Fo b j) ∧ EF tag F Fo := ⟨fun b j n24_2 n24_3 n24_4 n24_5 n24_6 n24_7 n25_3 n25_4 n25_7 => (yz51300.1 b j n24_2 n24_3 n24_4 n24_5 n24_6 n24_7 n25_3 n25_4).trans (hfr.1 b j n24_2 n24_3 n24_4 n24_5 n24_6 n24_7 n25_3 n25_4 n25_7), fun b j hb => (yz51300.2 b j hb).trans (hfr.2 b j hb)⟩
  refine lv_istore_n (lv' := [(2, .int z51300), (1, .int z51294), (0, .ref p0)]) hx hb dX3_readWater_35 rfl hl (by decide) rfl (fun ls hl => ?_)
  refine lv_aload_n hx hb dX3_readWater_36 rfl (lv_at hl 2 rfl) ?_
  refine t_get (C := RX3) (T := TX3) (N := 13) X hT m0 g0 rfl rfl 1 (by decide) qw_161 inlX3 rfl dX3_readWater_37 (fun v51301 hv51301 ov51301 => ?_)
  obtain rfl : v51301 = .ref x1 := hv51301.symm.trans pf1
  refine lv_iload_n hx hb dX3_readWater_40 rfl (lv_at hl 1 rfl) ?_
  refine lv_iload_n hx hb dX3_readWater_41 rfl (lv_at hl 0 rfl) ?_
  refine t_cVi (n := 2) (C := RX1) (T := TX1) (N := 20) (As := [.int z51294, .int z51300]) (rest := []) X hT (kt7_X1_isWet l G tag L F hT.2.2.2 x1 z51294 z51300 mx1 gx1) mx1 gx1 rfl rfl qw_344 qw_345 qw_346 qw_17 qw_347 ⟨rfl, by decide +kernel, by decide +kernel, by decide +kernel⟩ ⟨Nat.le_of_ble_eq_true rfl, Nat.le_of_ble_eq_true rfl⟩ hl rfl rfl (Nat.le_of_ble_eq_true rfl) dX3_readWater_42 ⟨Nat.le_of_ble_eq_true rfl, Nat.le_of_ble_eq_true rfl⟩ (fun z51302 F9 H locs hT hz51302 => ?_)
  obtain ⟨fz51302, hz51302⟩ := hz51302
  rw [fz51302] at hT
  refine lv_if_eq (tgt := 60) hx hb dX3_readWater_45 (by decide) (fun c51303 => ?_) (fun c51303 => ?_)
  · have w51304 := cv_eq (rfl : z51302.toInt = z51302.toInt) (by decide : (0 : Int32).toInt = 0) c51303
    exact K60 z51294 z51300 _ _ _ _ (by omega) (by omega) hT hfr pf0 pf1 pf2 pf3 pf4 pf5 (lv_sub hl [2, 1, 0] rfl)
  · have w51305 := cv_ne (rfl : z51302.toInt = z51302.toInt) (by decide : (0 : Int32).toInt = 0) c51303
    refine lv_aload_n hx hb dX3_readWater_48 rfl (lv_at hl 2 rfl) ?_
    refine lv_iconst (v := 3) hx hb dX3_readWater_49 (by decide) ?_
    refine lv_aload_n hx hb dX3_readWater_50 rfl (lv_at hl 2 rfl) ?_
    refine t_get (C := RX3) (T := TX3) (N := 13) X hT m0 g0 rfl rfl 0 (by decide) qw_73 inlX3 rfl dX3_readWater_51 (fun v51306 hv51306 ov51306 => ?_)
    obtain rfl : v51306 = .ref x0 := hv51306.symm.trans pf0
    refine t_get (C := RX8) (T := TX8) (N := 8) X hT mx0 gx0 rfl rfl 5 (by decide) qw_339 inlX8 rfl dX3_readWater_54 (fun v51307 hv51307 ov51307 => ?_)
    obtain ⟨z51308, rfl, rz51308⟩ := okV_i ov51307
    refine t_cVv (n := 2) (C := RX3) (T := TX3) (N := 13) (As := [.int 3, .int z51308]) (rest := []) X hT (kt111_X3_fail l G tag L F hT.2.2.2 p0 3 z51308 m0 g0 (by decide)) m0 g0 rfl rfl qw_287 qw_288 qw_289 qw_28 qw_290 ⟨rfl, by decide +kernel, by decide +kernel, by decide +kernel⟩ ⟨Nat.le_of_ble_eq_true rfl, Nat.le_of_ble_eq_true rfl⟩ hl rfl rfl (Nat.le_of_ble_eq_true rfl) dX3_readWater_57 ⟨Nat.le_of_ble_eq_true rfl, Nat.le_of_ble_eq_true rfl⟩ (fun F H locs hT hz51309 => ?_)
    obtain ⟨yz51309, xz51309_0⟩ := hz51309
    have pf0 := (yz51309.1 _ 0 (Or.inr (by decide)) (Or.inr (by decide))).trans pf0
    have pf1 := (yz51309.1 _ 1 (Or.inr (by decide)) (Or.inr (by decide))).trans pf1
    have pf2 := (yz51309.1 _ 2 (Or.inr (by decide)) (Or.inr (by decide))).trans pf2
    have pf3 := (yz51309.1 _ 0 (Or.inr (by decide)) (Or.inr (by decide))).trans pf3
    have pf4 := (yz51309.1 _ 10 (Or.inr (by decide)) (Or.inr (by decide))).trans pf4
    have pf5 := (yz51309.1 _ 11 (Or.inr (by decide)) (Or.inr (by decide))).trans pf5
    have hv51291 := (yz51309.1 _ 0 (Or.inr (by decide)) (Or.inr (by decide))).trans hv51291
    have hv51297 := (yz51309.1 _ 1 (Or.inr (by decide)) (Or.inr (by decide))).trans hv51297
    have hv51307 := (yz51309.1 _ 5 (Or.inr (by decide)) (Or.inr (by decide))).trans hv51307
    have hfr : (∀ b j : Nat, (tag b ≠ 24 ∨ j ≠ 2) → (tag b ≠ 24 ∨ j ≠ 3) → (tag b ≠ 24 ∨ j ≠ 4) → (tag b ≠ 24 ∨ j ≠ 5) → (tag b ≠ 24 ∨ j ≠ 6) → (tag b ≠ 24 ∨ j ≠ 7) → (tag b ≠ 25 ∨ j ≠ 3) → (tag b ≠ 25 ∨ j ≠ 4) → (tag b ≠ 25 ∨ j ≠ 7) → fld F b j = fld Fo b j) ∧ EF tag F Fo := ⟨fun b j n24_2 n24_3 n24_4 n24_5 n24_6 n24_7 n25_3 n25_4 n25_7 => (yz51309.1 b j n25_3 n25_4).trans (hfr.1 b j n24_2 n24_3 n24_4 n24_5 n24_6 n24_7 n25_3 n25_4 n25_7), fun b j hb => (yz51309.2 b j hb).trans (hfr.2 b j hb)⟩
    obtain ⟨z51310, qz51310, rz51310⟩ := xz51309_0
    exact K60 z51294 z51300 _ _ _ _ (by omega) (by omega) hT hfr pf0 pf1 pf2 pf3 pf4 pf5 (lv_sub hl [2, 1, 0] rfl)
set_option maxHeartbeats 4000000 in
set_option maxRecDepth 100000 in
theorem kt135_X3_newName (l : Launch) (G : KG) (tag : Nat → Nat) (L : List Nat) (Fo : Nat → va_E) (ho : okT G ttC tag L Fo) (p0 : Nat) (p1 : Int32) (p2 : Int32) (x0 : Nat) (x1 : Nat) (x2 : Nat) (x3 : Nat) (x4 : Nat) (x5 : Nat) (m0 : p0 ∈ L) (g0 : tag p0 = 25) (h1 : 3 ≤ p1.toInt ∧ p1.toInt ≤ 3) (mx0 : x0 ∈ L) (gx0 : tag x0 = 24) (pf0 : fld Fo p0 0 = .ref x0) (mx1 : x1 ∈ L) (gx1 : tag x1 = 18) (pf1 : fld Fo p0 1 = .ref x1) (mx2 : x2 ∈ L) (gx2 : tag x2 = 19) (pf2 : fld Fo p0 2 = .ref x2) (mx3 : x3 ∈ L) (gx3 : tag x3 = 1) (pf3 : fld Fo x0 0 = .ref x3) (mx4 : x4 ∈ L) (gx4 : tag x4 = 14) (pf4 : fld Fo p0 10 = .ref x4) (mx5 : x5 ∈ L) (gx5 : tag x5 = 15) (pf5 : fld Fo p0 11 = .ref x5) (hrel : NSR Fo x4 x5) : TMv l yX3_newName cX3_newName 3 { frames := 6, cells := 0, slots := 0, locals := 128 } G ttC tag L Fo [.ref p0, .int p1, .int p2] (fun F1 => (∀ b j : Nat, (tag b ≠ 24 ∨ j ≠ 2) → (tag b ≠ 24 ∨ j ≠ 3) → (tag b ≠ 24 ∨ j ≠ 4) → (tag b ≠ 24 ∨ j ≠ 5) → (tag b ≠ 24 ∨ j ≠ 6) → (tag b ≠ 24 ∨ j ≠ 7) → (tag b ≠ 25 ∨ j ≠ 3) → (tag b ≠ 25 ∨ j ≠ 4) → (tag b ≠ 25 ∨ j ≠ 12) → fld F1 b j = fld Fo b j) ∧ (NSR F1 x4 x5)) := by
  refine t_bodyv (y := yX3_newName) (cd := cX3_newName) (mL := 3) (rm := { frames := 6, cells := 0, slots := 0, locals := 128 }) (av := [.ref p0, .int p1, .int p2]) (by decide) (Nat.le_of_ble_eq_true rfl) ho ?_
  intro p e s m args below meth c ls A Q hQ X hT hl
  have hx := X.1.1
  have hb := X.1.2.1
  have hl : lv_has ls 3 [(0, .ref p0), (1, .int p1), (2, .int p2)] := hl
  have rp2 := rg_all p2
  obtain ⟨F, hFo⟩ : ∃ F : Nat → va_E, F = Fo := ⟨_, rfl⟩
  rw [← hFo] at hT pf0 pf1 pf2 pf3 pf4 pf5 hrel
  have hfr : ∀ b j : Nat, (tag b ≠ 24 ∨ j ≠ 2) → (tag b ≠ 24 ∨ j ≠ 3) → (tag b ≠ 24 ∨ j ≠ 4) → (tag b ≠ 24 ∨ j ≠ 5) → (tag b ≠ 24 ∨ j ≠ 6) → (tag b ≠ 24 ∨ j ≠ 7) → (tag b ≠ 25 ∨ j ≠ 3) → (tag b ≠ 25 ∨ j ≠ 4) → (tag b ≠ 25 ∨ j ≠ 12) → fld F b j = fld Fo b j := by
    rw [hFo]
    intros
    rfl
  have K51 : ∀  (F : Nat → va_E) (H : Heap) (locs : List Loc) (ls : Array Slot), TH G ttC A s tag L F H locs → (∀ b j : Nat, (tag b ≠ 24 ∨ j ≠ 2) → (tag b ≠ 24 ∨ j ≠ 3) → (tag b ≠ 24 ∨ j ≠ 4) → (tag b ≠ 24 ∨ j ≠ 5) → (tag b ≠ 24 ∨ j ≠ 6) → (tag b ≠ 24 ∨ j ≠ 7) → (tag b ≠ 25 ∨ j ≠ 3) → (tag b ≠ 25 ∨ j ≠ 4) → (tag b ≠ 25 ∨ j ≠ 12) → fld F b j = fld Fo b j) → NSR F x4 x5 → fld F p0 0 = .ref x0 → fld F p0 1 = .ref x1 → fld F p0 2 = .ref x2 → fld F x0 0 = .ref x3 → fld F p0 10 = .ref x4 → fld F p0 11 = .ref x5 → lv_has ls 3 [(0, .ref p0), (1, .int p1), (2, .int p2)] → W p l e { frames := 6, cells := 0, slots := 0, locals := 128 } s m args below meth c H locs 0 0 Q (F0 m 51 ls []) := by
    intro F H locs ls hT hfr hrel pf0 pf1 pf2 pf3 pf4 pf5 hl
    refine lv_aload_n hx hb dX3_newName_51 rfl (lv_at hl 0 rfl) ?_
    refine t_get (C := RX3) (T := TX3) (N := 13) X hT m0 g0 rfl rfl 3 (by decide) qw_163 inlX3 rfl dX3_newName_52 (fun v52149 hv52149 ov52149 => ?_)
    obtain ⟨z52150, rfl, rz52150⟩ := okV_i ov52149
    refine lv_if_ne (tgt := 67) hx hb dX3_newName_55 (by decide) (fun c52151 => ?_) (fun c52151 => ?_)
    · have w52152 := cv_ne (rfl : z52150.toInt = z52150.toInt) (by decide : (0 : Int32).toInt = 0) c52151
      exact t_vret hQ X hT ⟨hfr, hrel⟩ (Nat.le_of_ble_eq_true rfl) (Nat.le_of_ble_eq_true rfl) dX3_newName_67
    · have w52153 := cv_eq (rfl : z52150.toInt = z52150.toInt) (by decide : (0 : Int32).toInt = 0) c52151
      refine lv_aload_n hx hb dX3_newName_58 rfl (lv_at hl 0 rfl) ?_
      refine t_get (C := RX3) (T := TX3) (N := 13) X hT m0 g0 rfl rfl 12 (by decide) qw_169 inlX3 rfl dX3_newName_59 (fun v52154 hv52154 ov52154 => ?_)
      obtain ⟨z52155, rfl, rz52155⟩ := okV_i ov52154
      refine lv_bipush (v := 20) hx hb dX3_newName_62 (by decide) ?_
      refine lv_icmp_lt (tgt := 68) hx hb dX3_newName_64 (by decide) (fun c52156 => ?_) (fun c52156 => ?_)
      · have w52157 := cv_lt (rfl : z52155.toInt = z52155.toInt) (by decide : (20 : Int32).toInt = 20) c52156
        refine lv_aload_n hx hb dX3_newName_68 rfl (lv_at hl 0 rfl) ?_
        refine t_get (C := RX3) (T := TX3) (N := 13) X hT m0 g0 rfl rfl 9 (by decide) qw_74 inlX3 rfl dX3_newName_69 (fun v52158 hv52158 ov52158 => ?_)
        obtain ⟨b52159, rfl, mb52159, gb52159⟩ := okV_r ov52158
        have gb52159 : tag b52159 = 13 := tg_of gb52159
        refine lv_aload_n hx hb dX3_newName_72 rfl (lv_at hl 0 rfl) ?_
        refine t_get (C := RX3) (T := TX3) (N := 13) X hT m0 g0 rfl rfl 12 (by decide) qw_169 inlX3 rfl dX3_newName_73 (fun v52160 hv52160 ov52160 => ?_)
        obtain rfl : v52160 = .int z52155 := hv52160.symm.trans hv52154
        refine lv_aload_n hx hb dX3_newName_76 rfl (lv_at hl 0 rfl) ?_
        refine t_get (C := RX3) (T := TX3) (N := 13) X hT m0 g0 rfl rfl 0 (by decide) qw_73 inlX3 rfl dX3_newName_77 (fun v52161 hv52161 ov52161 => ?_)
        obtain rfl : v52161 = .ref x0 := hv52161.symm.trans pf0
        refine t_get (C := RX8) (T := TX8) (N := 8) X hT mx0 gx0 rfl rfl 7 (by decide) qw_360 inlX8 rfl dX3_newName_80 (fun v52162 hv52162 ov52162 => ?_)
        obtain ⟨z52163, rfl⟩ := ov52162
        refine t_lst X hT mb52159 gb52159 rfl (by omega) dX3_newName_83 (fun F H locs hT h1v52164 h2v52164 => ?_)
        have pf0 := (h2v52164 _ _).trans pf0
        have pf1 := (h2v52164 _ _).trans pf1
        have pf2 := (h2v52164 _ _).trans pf2
        have pf3 := (h2v52164 _ _).trans pf3
        have pf4 := (h2v52164 _ _).trans pf4
        have pf5 := (h2v52164 _ _).trans pf5
        have hv52149 := (h2v52164 _ _).trans hv52149
        have hv52154 := (h2v52164 _ _).trans hv52154
        have hv52158 := (h2v52164 _ _).trans hv52158
        have hfr : ∀ b j : Nat, (tag b ≠ 24 ∨ j ≠ 2) → (tag b ≠ 24 ∨ j ≠ 3) → (tag b ≠ 24 ∨ j ≠ 4) → (tag b ≠ 24 ∨ j ≠ 5) → (tag b ≠ 24 ∨ j ≠ 6) → (tag b ≠ 24 ∨ j ≠ 7) → (tag b ≠ 25 ∨ j ≠ 3) → (tag b ≠ 25 ∨ j ≠ 4) → (tag b ≠ 25 ∨ j ≠ 12) → fld F b j = fld Fo b j := fun b j n24_2 n24_3 n24_4 n24_5 n24_6 n24_7 n25_3 n25_4 n25_12 => (h2v52164 b j).trans (hfr b j n24_2 n24_3 n24_4 n24_5 n24_6 n24_7 n25_3 n25_4 n25_12)
        have hrel := nsr_of (fun j => h1v52164 _ j) (fun j => h1v52164 _ j) hrel
        refine lv_aload_n hx hb dX3_newName_84 rfl (lv_at hl 0 rfl) ?_
        refine t_get (C := RX3) (T := TX3) (N := 13) X hT m0 g0 rfl rfl 10 (by decide) qw_75 inlX3 rfl dX3_newName_85 (fun v52165 hv52165 ov52165 => ?_)
        obtain rfl : v52165 = .ref x4 := hv52165.symm.trans pf4
        refine lv_aload_n hx hb dX3_newName_88 rfl (lv_at hl 0 rfl) ?_
        refine t_get (C := RX3) (T := TX3) (N := 13) X hT m0 g0 rfl rfl 12 (by decide) qw_169 inlX3 rfl dX3_newName_89 (fun v52166 hv52166 ov52166 => ?_)
        obtain rfl : v52166 = .int z52155 := hv52166.symm.trans hv52154
        refine lv_iload_n hx hb dX3_newName_92 rfl (lv_at hl 1 rfl) ?_
        refine t_ist X hT mx4 gx4 rfl (by omega) (show (-2147483648) ≤ (p1 : Int32).toInt ∧ (p1 : Int32).toInt ≤ 2147483647 from (by omega)) dX3_newName_93 (fun F H locs hT v52167 h1v52167 h2v52167 => ?_)
        have pf0 := (h2v52167 _ _).trans pf0
        have pf1 := (h2v52167 _ _).trans pf1
        have pf2 := (h2v52167 _ _).trans pf2
        have pf3 := (h2v52167 _ _).trans pf3
        have pf4 := (h2v52167 _ _).trans pf4
        have pf5 := (h2v52167 _ _).trans pf5
        have hv52149 := (h2v52167 _ _).trans hv52149
        have hv52154 := (h2v52167 _ _).trans hv52154
        have hv52158 := (h2v52167 _ _).trans hv52158
        have hfr : ∀ b j : Nat, (tag b ≠ 24 ∨ j ≠ 2) → (tag b ≠ 24 ∨ j ≠ 3) → (tag b ≠ 24 ∨ j ≠ 4) → (tag b ≠ 24 ∨ j ≠ 5) → (tag b ≠ 24 ∨ j ≠ 6) → (tag b ≠ 24 ∨ j ≠ 7) → (tag b ≠ 25 ∨ j ≠ 3) → (tag b ≠ 25 ∨ j ≠ 4) → (tag b ≠ 25 ∨ j ≠ 12) → fld F b j = fld Fo b j := fun b j n24_2 n24_3 n24_4 n24_5 n24_6 n24_7 n25_3 n25_4 n25_12 => (h2v52167 b j).trans (hfr b j n24_2 n24_3 n24_4 n24_5 n24_6 n24_7 n25_3 n25_4 n25_12)
        have hrel := nsr_s hrel h1v52167 (tne gx5 gx4 (by decide))
        refine lv_aload_n hx hb dX3_newName_94 rfl (lv_at hl 0 rfl) ?_
        refine t_get (C := RX3) (T := TX3) (N := 13) X hT m0 g0 rfl rfl 11 (by decide) qw_76 inlX3 rfl dX3_newName_95 (fun v52168 hv52168 ov52168 => ?_)
        obtain rfl : v52168 = .ref x5 := hv52168.symm.trans pf5
        refine lv_aload_n hx hb dX3_newName_98 rfl (lv_at hl 0 rfl) ?_
        refine t_get (C := RX3) (T := TX3) (N := 13) X hT m0 g0 rfl rfl 12 (by decide) qw_169 inlX3 rfl dX3_newName_99 (fun v52169 hv52169 ov52169 => ?_)
        obtain rfl : v52169 = .int z52155 := hv52169.symm.trans hv52154
        refine lv_iload_n hx hb dX3_newName_102 rfl (lv_at hl 2 rfl) ?_
        refine t_ist X hT mx5 gx5 rfl (by omega) (show (-2147483648) ≤ (p2 : Int32).toInt ∧ (p2 : Int32).toInt ≤ 2147483647 from (by omega)) dX3_newName_103 (fun F H locs hT v52170 h1v52170 h2v52170 => ?_)
        have pf0 := (h2v52170 _ _).trans pf0
        have pf1 := (h2v52170 _ _).trans pf1
        have pf2 := (h2v52170 _ _).trans pf2
        have pf3 := (h2v52170 _ _).trans pf3
        have pf4 := (h2v52170 _ _).trans pf4
        have pf5 := (h2v52170 _ _).trans pf5
        have hv52149 := (h2v52170 _ _).trans hv52149
        have hv52154 := (h2v52170 _ _).trans hv52154
        have hv52158 := (h2v52170 _ _).trans hv52158
        have hfr : ∀ b j : Nat, (tag b ≠ 24 ∨ j ≠ 2) → (tag b ≠ 24 ∨ j ≠ 3) → (tag b ≠ 24 ∨ j ≠ 4) → (tag b ≠ 24 ∨ j ≠ 5) → (tag b ≠ 24 ∨ j ≠ 6) → (tag b ≠ 24 ∨ j ≠ 7) → (tag b ≠ 25 ∨ j ≠ 3) → (tag b ≠ 25 ∨ j ≠ 4) → (tag b ≠ 25 ∨ j ≠ 12) → fld F b j = fld Fo b j := fun b j n24_2 n24_3 n24_4 n24_5 n24_6 n24_7 n25_3 n25_4 n25_12 => (h2v52170 b j).trans (hfr b j n24_2 n24_3 n24_4 n24_5 n24_6 n24_7 n25_3 n25_4 n25_12)
        have hrel := nsr_n hrel v52167 h1v52170 v52170 (tne gx4 gx5 (by decide)) ⟨fun h9 => (by have h8 := congrArg Int32.toInt h9; rw [show ((4 : Int32).toInt = 4) from by decide] at h8; omega), fun h9 => (by have h8 := congrArg Int32.toInt h9; rw [show ((7 : Int32).toInt = 7) from by decide] at h8; omega)⟩
        refine lv_aload_n hx hb dX3_newName_104 rfl (lv_at hl 0 rfl) ?_
        refine lv_dup hx hb dX3_newName_105 rfl ?_
        refine t_get (C := RX3) (T := TX3) (N := 13) X hT m0 g0 rfl rfl 12 (by decide) qw_169 inlX3 rfl dX3_newName_106 (fun v52171 hv52171 ov52171 => ?_)
        obtain rfl : v52171 = .int z52155 := hv52171.symm.trans hv52154
        refine lv_iconst (v := 1) hx hb dX3_newName_109 (by decide) ?_
        refine lv_iadd hx hb dX3_newName_110 ?_
        refine lv_topi (fun z52172 ez52172 => ?_)
        have hz52172 : z52172.toInt = z52155.toInt + 1 := ar_add ez52172 (rfl : z52155.toInt = z52155.toInt) (by decide : (1 : Int32).toInt = 1) (by omega) (by omega)
        have rz52172 : 1 ≤ z52172.toInt ∧ z52172.toInt ≤ 20 := by omega
        refine t_put (C := RX3) (T := TX3) (N := 13) (v := .int z52172) X hT m0 g0 rfl tyX3 tyX3_ok nmX3 rfl 12 (by decide) qw_169 inlX3 rfl (by first | rfl | decide) (by first | rfl | decide) rfl (⟨_, rfl, (show 0 ≤ (z52172 : Int32).toInt from (by omega)), (show (z52172 : Int32).toInt ≤ 20 from (by omega))⟩) dX3_newName_111 (fun F H locs hT v52173 h1v52173 h2v52173 => ?_)
        have pf0 := (h1v52173 _ _ (Or.inr (by decide))).trans pf0
        have pf1 := (h1v52173 _ _ (Or.inr (by decide))).trans pf1
        have pf2 := (h1v52173 _ _ (Or.inr (by decide))).trans pf2
        have pf3 := (h1v52173 _ _ (Or.inr (by decide))).trans pf3
        have pf4 := (h1v52173 _ _ (Or.inr (by decide))).trans pf4
        have pf5 := (h1v52173 _ _ (Or.inr (by decide))).trans pf5
        have hv52149 := (h1v52173 _ _ (Or.inr (by decide))).trans hv52149
        have hv52158 := (h1v52173 _ _ (Or.inr (by decide))).trans hv52158
        have v52170 := (h2v52173 _ _).trans v52170
        have hfr : ∀ b j : Nat, (tag b ≠ 24 ∨ j ≠ 2) → (tag b ≠ 24 ∨ j ≠ 3) → (tag b ≠ 24 ∨ j ≠ 4) → (tag b ≠ 24 ∨ j ≠ 5) → (tag b ≠ 24 ∨ j ≠ 6) → (tag b ≠ 24 ∨ j ≠ 7) → (tag b ≠ 25 ∨ j ≠ 3) → (tag b ≠ 25 ∨ j ≠ 4) → (tag b ≠ 25 ∨ j ≠ 12) → fld F b j = fld Fo b j := fun b j n24_2 n24_3 n24_4 n24_5 n24_6 n24_7 n25_3 n25_4 n25_12 => (h1v52173 b j (fr_ne g0 n25_12)).trans (hfr b j n24_2 n24_3 n24_4 n24_5 n24_6 n24_7 n25_3 n25_4 n25_12)
        have hrel := nsr_of (fun j => h2v52173 _ j) (fun j => h2v52173 _ j) hrel
        refine lv_aload_n hx hb dX3_newName_114 rfl (lv_at hl 0 rfl) ?_
        refine t_get (C := RX3) (T := TX3) (N := 13) X hT m0 g0 rfl rfl 0 (by decide) qw_73 inlX3 rfl dX3_newName_115 (fun v52174 hv52174 ov52174 => ?_)
        obtain rfl : v52174 = .ref x0 := hv52174.symm.trans pf0
        refine t_cVv (n := 0) (C := RX8) (T := TX8) (N := 8) (As := []) (rest := []) X hT (kt98_X8_advance l G tag L F hT.2.2.2 x0 x3 mx0 gx0 mx3 gx3 pf3) mx0 gx0 rfl rfl qw_305 qw_197 qw_198 qw_72 qw_199 ⟨rfl, by decide +kernel, by decide +kernel, by decide +kernel⟩ ⟨Nat.le_of_ble_eq_true rfl, Nat.le_of_ble_eq_true rfl⟩ hl rfl rfl (Nat.le_of_ble_eq_true rfl) dX3_newName_118 ⟨Nat.le_of_ble_eq_true rfl, Nat.le_of_ble_eq_true rfl⟩ (fun F H locs hT hz52175 => ?_)
        have yz52175 := hz52175
        have pf0 := (yz52175.1 _ 0 (Or.inr (by decide)) (Or.inr (by decide)) (Or.inr (by decide)) (Or.inr (by decide)) (Or.inr (by decide)) (Or.inr (by decide))).trans pf0
        have pf1 := (yz52175.1 _ 1 (Or.inr (by decide)) (Or.inr (by decide)) (Or.inr (by decide)) (Or.inr (by decide)) (Or.inr (by decide)) (Or.inr (by decide))).trans pf1
        have pf2 := (yz52175.1 _ 2 (Or.inl (by rw [g0]; decide)) (Or.inr (by decide)) (Or.inr (by decide)) (Or.inr (by decide)) (Or.inr (by decide)) (Or.inr (by decide))).trans pf2
        have pf3 := (yz52175.1 _ 0 (Or.inr (by decide)) (Or.inr (by decide)) (Or.inr (by decide)) (Or.inr (by decide)) (Or.inr (by decide)) (Or.inr (by decide))).trans pf3
        have pf4 := (yz52175.1 _ 10 (Or.inr (by decide)) (Or.inr (by decide)) (Or.inr (by decide)) (Or.inr (by decide)) (Or.inr (by decide)) (Or.inr (by decide))).trans pf4
        have pf5 := (yz52175.1 _ 11 (Or.inr (by decide)) (Or.inr (by decide)) (Or.inr (by decide)) (Or.inr (by decide)) (Or.inr (by decide)) (Or.inr (by decide))).trans pf5
        have hv52149 := (yz52175.1 _ 3 (Or.inr (by decide)) (Or.inl (by rw [g0]; decide)) (Or.inr (by decide)) (Or.inr (by decide)) (Or.inr (by decide)) (Or.inr (by decide))).trans hv52149
        have hv52158 := (yz52175.1 _ 9 (Or.inr (by decide)) (Or.inr (by decide)) (Or.inr (by decide)) (Or.inr (by decide)) (Or.inr (by decide)) (Or.inr (by decide))).trans hv52158
        have v52170 := (yz52175.2 _ _ (Or.inr gx5)).trans v52170
        have v52173 := (yz52175.1 _ 12 (Or.inr (by decide)) (Or.inr (by decide)) (Or.inr (by decide)) (Or.inr (by decide)) (Or.inr (by decide)) (Or.inr (by decide))).trans v52173
        have hfr : ∀ b j : Nat, (tag b ≠ 24 ∨ j ≠ 2) → (tag b ≠ 24 ∨ j ≠ 3) → (tag b ≠ 24 ∨ j ≠ 4) → (tag b ≠ 24 ∨ j ≠ 5) → (tag b ≠ 24 ∨ j ≠ 6) → (tag b ≠ 24 ∨ j ≠ 7) → (tag b ≠ 25 ∨ j ≠ 3) → (tag b ≠ 25 ∨ j ≠ 4) → (tag b ≠ 25 ∨ j ≠ 12) → fld F b j = fld Fo b j := fun b j n24_2 n24_3 n24_4 n24_5 n24_6 n24_7 n25_3 n25_4 n25_12 => (yz52175.1 b j n24_2 n24_3 n24_4 n24_5 n24_6 n24_7).trans (hfr b j n24_2 n24_3 n24_4 n24_5 n24_6 n24_7 n25_3 n25_4 n25_12)
        have hrel := nsr_of (fun j => yz52175.2 _ j (Or.inl gx4)) (fun j => yz52175.2 _ j (Or.inr gx5)) hrel
        exact t_vret hQ X hT ⟨hfr, hrel⟩ (Nat.le_of_ble_eq_true rfl) (Nat.le_of_ble_eq_true rfl) dX3_newName_121
      · have w52176 := cv_nlt (rfl : z52155.toInt = z52155.toInt) (by decide : (20 : Int32).toInt = 20) c52156
        exact t_vret hQ X hT ⟨hfr, hrel⟩ (Nat.le_of_ble_eq_true rfl) (Nat.le_of_ble_eq_true rfl) dX3_newName_67
  have K31 : ∀  (F : Nat → va_E) (H : Heap) (locs : List Loc) (ls : Array Slot), TH G ttC A s tag L F H locs → (∀ b j : Nat, (tag b ≠ 24 ∨ j ≠ 2) → (tag b ≠ 24 ∨ j ≠ 3) → (tag b ≠ 24 ∨ j ≠ 4) → (tag b ≠ 24 ∨ j ≠ 5) → (tag b ≠ 24 ∨ j ≠ 6) → (tag b ≠ 24 ∨ j ≠ 7) → (tag b ≠ 25 ∨ j ≠ 3) → (tag b ≠ 25 ∨ j ≠ 4) → (tag b ≠ 25 ∨ j ≠ 12) → fld F b j = fld Fo b j) → NSR F x4 x5 → fld F p0 0 = .ref x0 → fld F p0 1 = .ref x1 → fld F p0 2 = .ref x2 → fld F x0 0 = .ref x3 → fld F p0 10 = .ref x4 → fld F p0 11 = .ref x5 → lv_has ls 3 [(0, .ref p0), (1, .int p1), (2, .int p2)] → W p l e { frames := 6, cells := 0, slots := 0, locals := 128 } s m args below meth c H locs 0 0 Q (F0 m 31 ls []) := by
    intro F H locs ls hT hfr hrel pf0 pf1 pf2 pf3 pf4 pf5 hl
    refine lv_aload_n hx hb dX3_newName_31 rfl (lv_at hl 0 rfl) ?_
    refine t_cVi (n := 0) (C := RX3) (T := TX3) (N := 13) (As := []) (rest := []) X hT (kt113_X3_findName l G tag L F hT.2.2.2 p0 x0 x1 x2 x3 x4 x5 m0 g0 mx0 gx0 pf0 mx1 gx1 pf1 mx2 gx2 pf2 mx3 gx3 pf3 mx4 gx4 pf4 mx5 gx5 pf5) m0 g0 rfl rfl qw_361 qw_362 qw_363 qw_28 qw_364 ⟨rfl, by decide +kernel, by decide +kernel, by decide +kernel⟩ ⟨Nat.le_of_ble_eq_true rfl, Nat.le_of_ble_eq_true rfl⟩ hl rfl rfl (Nat.le_of_ble_eq_true rfl) dX3_newName_32 ⟨Nat.le_of_ble_eq_true rfl, Nat.le_of_ble_eq_true rfl⟩ (fun z52177 F9 H locs hT hz52177 => ?_)
    obtain ⟨fz52177, hz52177⟩ := hz52177
    rw [fz52177] at hT
    refine lv_iconst (v := (-1)) hx hb dX3_newName_35 (by decide) ?_
    refine lv_icmp_eq (tgt := 51) hx hb dX3_newName_36 (by decide) (fun c52178 => ?_) (fun c52178 => ?_)
    · have w52179 := cv_eq (rfl : z52177.toInt = z52177.toInt) (by decide : ((-1) : Int32).toInt = (-1)) c52178
      exact K51  _ _ _ _  hT hfr hrel pf0 pf1 pf2 pf3 pf4 pf5 (lv_sub hl [0, 1, 2] rfl)
    · have w52180 := cv_ne (rfl : z52177.toInt = z52177.toInt) (by decide : ((-1) : Int32).toInt = (-1)) c52178
      refine lv_aload_n hx hb dX3_newName_39 rfl (lv_at hl 0 rfl) ?_
      refine lv_iconst (v := 3) hx hb dX3_newName_40 (by decide) ?_
      refine lv_aload_n hx hb dX3_newName_41 rfl (lv_at hl 0 rfl) ?_
      refine t_get (C := RX3) (T := TX3) (N := 13) X hT m0 g0 rfl rfl 0 (by decide) qw_73 inlX3 rfl dX3_newName_42 (fun v52181 hv52181 ov52181 => ?_)
      obtain rfl : v52181 = .ref x0 := hv52181.symm.trans pf0
      refine t_get (C := RX8) (T := TX8) (N := 8) X hT mx0 gx0 rfl rfl 4 (by decide) qw_227 inlX8 rfl dX3_newName_45 (fun v52182 hv52182 ov52182 => ?_)
      obtain ⟨z52183, rfl, rz52183⟩ := okV_i ov52182
      refine t_cVv (n := 2) (C := RX3) (T := TX3) (N := 13) (As := [.int 3, .int z52183]) (rest := []) X hT (kt111_X3_fail l G tag L F hT.2.2.2 p0 3 z52183 m0 g0 (by decide)) m0 g0 rfl rfl qw_287 qw_288 qw_289 qw_28 qw_290 ⟨rfl, by decide +kernel, by decide +kernel, by decide +kernel⟩ ⟨Nat.le_of_ble_eq_true rfl, Nat.le_of_ble_eq_true rfl⟩ hl rfl rfl (Nat.le_of_ble_eq_true rfl) dX3_newName_48 ⟨Nat.le_of_ble_eq_true rfl, Nat.le_of_ble_eq_true rfl⟩ (fun F H locs hT hz52184 => ?_)
      obtain ⟨yz52184, xz52184_0⟩ := hz52184
      have pf0 := (yz52184.1 _ 0 (Or.inr (by decide)) (Or.inr (by decide))).trans pf0
      have pf1 := (yz52184.1 _ 1 (Or.inr (by decide)) (Or.inr (by decide))).trans pf1
      have pf2 := (yz52184.1 _ 2 (Or.inr (by decide)) (Or.inr (by decide))).trans pf2
      have pf3 := (yz52184.1 _ 0 (Or.inr (by decide)) (Or.inr (by decide))).trans pf3
      have pf4 := (yz52184.1 _ 10 (Or.inr (by decide)) (Or.inr (by decide))).trans pf4
      have pf5 := (yz52184.1 _ 11 (Or.inr (by decide)) (Or.inr (by decide))).trans pf5
      have hv52182 := (yz52184.1 _ 4 (Or.inr (by decide)) (Or.inl (by rw [gx0]; decide))).trans hv52182
      have hfr : ∀ b j : Nat, (tag b ≠ 24 ∨ j ≠ 2) → (tag b ≠ 24 ∨ j ≠ 3) → (tag b ≠ 24 ∨ j ≠ 4) → (tag b ≠ 24 ∨ j ≠ 5) → (tag b ≠ 24 ∨ j ≠ 6) → (tag b ≠ 24 ∨ j ≠ 7) → (tag b ≠ 25 ∨ j ≠ 3) → (tag b ≠ 25 ∨ j ≠ 4) → (tag b ≠ 25 ∨ j ≠ 12) → fld F b j = fld Fo b j := fun b j n24_2 n24_3 n24_4 n24_5 n24_6 n24_7 n25_3 n25_4 n25_12 => (yz52184.1 b j n25_3 n25_4).trans (hfr b j n24_2 n24_3 n24_4 n24_5 n24_6 n24_7 n25_3 n25_4 n25_12)
      have hrel := nsr_of (fun j => yz52184.2 _ j (Or.inl gx4)) (fun j => yz52184.2 _ j (Or.inr gx5)) hrel
      obtain ⟨z52185, qz52185, rz52185⟩ := xz52184_0
      exact K51  _ _ _ _  hT hfr hrel pf0 pf1 pf2 pf3 pf4 pf5 (lv_sub hl [0, 1, 2] rfl)
  have K19 : ∀  (F : Nat → va_E) (H : Heap) (locs : List Loc) (ls : Array Slot), TH G ttC A s tag L F H locs → (∀ b j : Nat, (tag b ≠ 24 ∨ j ≠ 2) → (tag b ≠ 24 ∨ j ≠ 3) → (tag b ≠ 24 ∨ j ≠ 4) → (tag b ≠ 24 ∨ j ≠ 5) → (tag b ≠ 24 ∨ j ≠ 6) → (tag b ≠ 24 ∨ j ≠ 7) → (tag b ≠ 25 ∨ j ≠ 3) → (tag b ≠ 25 ∨ j ≠ 4) → (tag b ≠ 25 ∨ j ≠ 12) → fld F b j = fld Fo b j) → NSR F x4 x5 → fld F p0 0 = .ref x0 → fld F p0 1 = .ref x1 → fld F p0 2 = .ref x2 → fld F x0 0 = .ref x3 → fld F p0 10 = .ref x4 → fld F p0 11 = .ref x5 → lv_has ls 3 [(0, .ref p0), (1, .int p1), (2, .int p2)] → W p l e { frames := 6, cells := 0, slots := 0, locals := 128 } s m args below meth c H locs 0 0 Q (F0 m 19 ls []) := by
    intro F H locs ls hT hfr hrel pf0 pf1 pf2 pf3 pf4 pf5 hl
    refine lv_aload_n hx hb dX3_newName_19 rfl (lv_at hl 0 rfl) ?_
    refine lv_iconst (v := 1) hx hb dX3_newName_20 (by decide) ?_
    refine lv_aload_n hx hb dX3_newName_21 rfl (lv_at hl 0 rfl) ?_
    refine t_get (C := RX3) (T := TX3) (N := 13) X hT m0 g0 rfl rfl 0 (by decide) qw_73 inlX3 rfl dX3_newName_22 (fun v52186 hv52186 ov52186 => ?_)
    obtain rfl : v52186 = .ref x0 := hv52186.symm.trans pf0
    refine t_get (C := RX8) (T := TX8) (N := 8) X hT mx0 gx0 rfl rfl 4 (by decide) qw_227 inlX8 rfl dX3_newName_25 (fun v52187 hv52187 ov52187 => ?_)
    obtain ⟨z52188, rfl, rz52188⟩ := okV_i ov52187
    refine t_cVv (n := 2) (C := RX3) (T := TX3) (N := 13) (As := [.int 1, .int z52188]) (rest := []) X hT (kt111_X3_fail l G tag L F hT.2.2.2 p0 1 z52188 m0 g0 (by decide)) m0 g0 rfl rfl qw_287 qw_288 qw_289 qw_28 qw_290 ⟨rfl, by decide +kernel, by decide +kernel, by decide +kernel⟩ ⟨Nat.le_of_ble_eq_true rfl, Nat.le_of_ble_eq_true rfl⟩ hl rfl rfl (Nat.le_of_ble_eq_true rfl) dX3_newName_28 ⟨Nat.le_of_ble_eq_true rfl, Nat.le_of_ble_eq_true rfl⟩ (fun F H locs hT hz52189 => ?_)
    obtain ⟨yz52189, xz52189_0⟩ := hz52189
    have pf0 := (yz52189.1 _ 0 (Or.inr (by decide)) (Or.inr (by decide))).trans pf0
    have pf1 := (yz52189.1 _ 1 (Or.inr (by decide)) (Or.inr (by decide))).trans pf1
    have pf2 := (yz52189.1 _ 2 (Or.inr (by decide)) (Or.inr (by decide))).trans pf2
    have pf3 := (yz52189.1 _ 0 (Or.inr (by decide)) (Or.inr (by decide))).trans pf3
    have pf4 := (yz52189.1 _ 10 (Or.inr (by decide)) (Or.inr (by decide))).trans pf4
    have pf5 := (yz52189.1 _ 11 (Or.inr (by decide)) (Or.inr (by decide))).trans pf5
    have hv52187 := (yz52189.1 _ 4 (Or.inr (by decide)) (Or.inl (by rw [gx0]; decide))).trans hv52187
    have hfr : ∀ b j : Nat, (tag b ≠ 24 ∨ j ≠ 2) → (tag b ≠ 24 ∨ j ≠ 3) → (tag b ≠ 24 ∨ j ≠ 4) → (tag b ≠ 24 ∨ j ≠ 5) → (tag b ≠ 24 ∨ j ≠ 6) → (tag b ≠ 24 ∨ j ≠ 7) → (tag b ≠ 25 ∨ j ≠ 3) → (tag b ≠ 25 ∨ j ≠ 4) → (tag b ≠ 25 ∨ j ≠ 12) → fld F b j = fld Fo b j := fun b j n24_2 n24_3 n24_4 n24_5 n24_6 n24_7 n25_3 n25_4 n25_12 => (yz52189.1 b j n25_3 n25_4).trans (hfr b j n24_2 n24_3 n24_4 n24_5 n24_6 n24_7 n25_3 n25_4 n25_12)
    have hrel := nsr_of (fun j => yz52189.2 _ j (Or.inl gx4)) (fun j => yz52189.2 _ j (Or.inr gx5)) hrel
    obtain ⟨z52190, qz52190, rz52190⟩ := xz52189_0
    exact K31  _ _ _ _  hT hfr hrel pf0 pf1 pf2 pf3 pf4 pf5 (lv_sub hl [0, 1, 2] rfl)
  refine lv_aload_n hx hb dX3_newName_0 rfl (lv_at hl 0 rfl) ?_
  refine t_get (C := RX3) (T := TX3) (N := 13) X hT m0 g0 rfl rfl 0 (by decide) qw_73 inlX3 rfl dX3_newName_1 (fun v52191 hv52191 ov52191 => ?_)
  obtain rfl : v52191 = .ref x0 := hv52191.symm.trans pf0
  refine t_get (C := RX8) (T := TX8) (N := 8) X hT mx0 gx0 rfl rfl 3 (by decide) qw_170 inlX8 rfl dX3_newName_4 (fun v52192 hv52192 ov52192 => ?_)
  obtain ⟨z52193, rfl, rz52193⟩ := okV_i ov52192
  refine lv_iconst (v := 1) hx hb dX3_newName_7 (by decide) ?_
  refine lv_icmp_ne (tgt := 19) hx hb dX3_newName_8 (by decide) (fun c52194 => ?_) (fun c52194 => ?_)
  · have w52195 := cv_ne (rfl : z52193.toInt = z52193.toInt) (by decide : (1 : Int32).toInt = 1) c52194
    exact K19  _ _ _ _  hT hfr hrel pf0 pf1 pf2 pf3 pf4 pf5 (lv_sub hl [0, 1, 2] rfl)
  · have w52196 := cv_eq (rfl : z52193.toInt = z52193.toInt) (by decide : (1 : Int32).toInt = 1) c52194
    refine lv_aload_n hx hb dX3_newName_11 rfl (lv_at hl 0 rfl) ?_
    refine t_cVi (n := 0) (C := RX3) (T := TX3) (N := 13) (As := []) (rest := []) X hT (kt108_X3_lineSort l G tag L F hT.2.2.2 p0 x0 x1 x2 x3 x4 x5 m0 g0 mx0 gx0 pf0 mx1 gx1 pf1 mx2 gx2 pf2 mx3 gx3 pf3 mx4 gx4 pf4 mx5 gx5 pf5) m0 g0 rfl rfl qw_230 qw_231 qw_232 qw_28 qw_233 ⟨rfl, by decide +kernel, by decide +kernel, by decide +kernel⟩ ⟨Nat.le_of_ble_eq_true rfl, Nat.le_of_ble_eq_true rfl⟩ hl rfl rfl (Nat.le_of_ble_eq_true rfl) dX3_newName_12 ⟨Nat.le_of_ble_eq_true rfl, Nat.le_of_ble_eq_true rfl⟩ (fun z52197 F9 H locs hT hz52197 => ?_)
    obtain ⟨fz52197, hz52197⟩ := hz52197
    rw [fz52197] at hT
    refine lv_iconst (v := (-1)) hx hb dX3_newName_15 (by decide) ?_
    refine lv_icmp_eq (tgt := 31) hx hb dX3_newName_16 (by decide) (fun c52198 => ?_) (fun c52198 => ?_)
    · have w52199 := cv_eq (rfl : z52197.toInt = z52197.toInt) (by decide : ((-1) : Int32).toInt = (-1)) c52198
      exact K31  _ _ _ _  hT hfr hrel pf0 pf1 pf2 pf3 pf4 pf5 (lv_sub hl [0, 1, 2] rfl)
    · have w52200 := cv_ne (rfl : z52197.toInt = z52197.toInt) (by decide : ((-1) : Int32).toInt = (-1)) c52198
      exact K19  _ _ _ _  hT hfr hrel pf0 pf1 pf2 pf3 pf4 pf5 (lv_sub hl [0, 1, 2] rfl)
set_option maxHeartbeats 4000000 in
set_option maxRecDepth 100000 in
theorem kt136_X3_whole (l : Launch) (G : KG) (tag : Nat → Nat) (L : List Nat) (Fo : Nat → va_E) (ho : okT G ttC tag L Fo) (p0 : Nat) (p1 : Int32) (p2 : Int32) (x0 : Nat) (x1 : Nat) (x2 : Nat) (x3 : Nat) (x4 : Nat) (x5 : Nat) (m0 : p0 ∈ L) (g0 : tag p0 = 25) (h1 : 1 ≤ p1.toInt ∧ p1.toInt ≤ 1) (h2 : 9 ≤ p2.toInt ∧ p2.toInt ≤ 9) (mx0 : x0 ∈ L) (gx0 : tag x0 = 24) (pf0 : fld Fo p0 0 = .ref x0) (mx1 : x1 ∈ L) (gx1 : tag x1 = 18) (pf1 : fld Fo p0 1 = .ref x1) (mx2 : x2 ∈ L) (gx2 : tag x2 = 19) (pf2 : fld Fo p0 2 = .ref x2) (mx3 : x3 ∈ L) (gx3 : tag x3 = 1) (pf3 : fld Fo x0 0 = .ref x3) (mx4 : x4 ∈ L) (gx4 : tag x4 = 14) (pf4 : fld Fo p0 10 = .ref x4) (mx5 : x5 ∈ L) (gx5 : tag x5 = 15) (pf5 : fld Fo p0 11 = .ref x5) : TMi l yX3_whole cX3_whole 4 (some .int) { frames := 3, cells := 0, slots := 0, locals := 62 } G ttC tag L Fo [.ref p0, .int p1, .int p2] (fun r F1 => (1 ≤ r.toInt ∧ r.toInt ≤ 9) ∧ ((∀ b j : Nat, (tag b ≠ 24 ∨ j ≠ 2) → (tag b ≠ 24 ∨ j ≠ 3) → (tag b ≠ 24 ∨ j ≠ 4) → (tag b ≠ 24 ∨ j ≠ 5) → (tag b ≠ 24 ∨ j ≠ 6) → (tag b ≠ 24 ∨ j ≠ 7) → (tag b ≠ 25 ∨ j ≠ 3) → (tag b ≠ 25 ∨ j ≠ 4) → fld F1 b j = fld Fo b j) ∧ EF tag F1 Fo)) := by
  refine t_bodyi (y := yX3_whole) (cd := cX3_whole) (mL := 4) (rt := (some .int)) (rm := { frames := 3, cells := 0, slots := 0, locals := 62 }) (av := [.ref p0, .int p1, .int p2]) (by decide) (Nat.le_of_ble_eq_true rfl) ho ?_
  intro p e s m args below meth c ls A Q hQ X hT hl
  have hx := X.1.1
  have hb := X.1.2.1
  have hl : lv_has ls 4 [(0, .ref p0), (1, .int p1), (2, .int p2)] := hl
  obtain ⟨F, hFo⟩ : ∃ F : Nat → va_E, F = Fo := ⟨_, rfl⟩
  rw [← hFo] at hT pf0 pf1 pf2 pf3 pf4 pf5
  have hfr : (∀ b j : Nat, (tag b ≠ 24 ∨ j ≠ 2) → (tag b ≠ 24 ∨ j ≠ 3) → (tag b ≠ 24 ∨ j ≠ 4) → (tag b ≠ 24 ∨ j ≠ 5) → (tag b ≠ 24 ∨ j ≠ 6) → (tag b ≠ 24 ∨ j ≠ 7) → (tag b ≠ 25 ∨ j ≠ 3) → (tag b ≠ 25 ∨ j ≠ 4) → fld F b j = fld Fo b j) ∧ EF tag F Fo := by
    rw [hFo]
    exact ⟨by intros; rfl, fun _ _ _ => rfl⟩
  refine lv_aload_n hx hb dX3_whole_0 rfl (lv_at hl 0 rfl) ?_
  refine t_get (C := RX3) (T := TX3) (N := 13) X hT m0 g0 rfl rfl 0 (by decide) qw_73 inlX3 rfl dX3_whole_1 (fun v52790 hv52790 ov52790 => ?_)
  obtain rfl : v52790 = .ref x0 := hv52790.symm.trans pf0
  refine t_get (C := RX8) (T := TX8) (N := 8) X hT mx0 gx0 rfl rfl 3 (by decide) qw_170 inlX8 rfl dX3_whole_4 (fun v52791 hv52791 ov52791 => ?_)
  obtain ⟨z52792, rfl, rz52792⟩ := okV_i ov52791
  refine lv_iconst (v := 2) hx hb dX3_whole_7 (by decide) ?_
  refine lv_icmp_eq (tgt := 26) hx hb dX3_whole_8 (by decide) (fun c52793 => ?_) (fun c52793 => ?_)
  · have w52794 := cv_eq (rfl : z52792.toInt = z52792.toInt) (by decide : (2 : Int32).toInt = 2) c52793
    refine lv_aload_n hx hb dX3_whole_26 rfl (lv_at hl 0 rfl) ?_
    refine t_get (C := RX3) (T := TX3) (N := 13) X hT m0 g0 rfl rfl 0 (by decide) qw_73 inlX3 rfl dX3_whole_27 (fun v52795 hv52795 ov52795 => ?_)
    obtain rfl : v52795 = .ref x0 := hv52795.symm.trans pf0
    refine t_get (C := RX8) (T := TX8) (N := 8) X hT mx0 gx0 rfl rfl 6 (by decide) qw_322 inlX8 rfl dX3_whole_30 (fun v52796 hv52796 ov52796 => ?_)
    obtain ⟨z52797, rfl, rz52797⟩ := okV_i ov52796
    refine lv_iload_n hx hb dX3_whole_33 rfl (lv_at hl 1 rfl) ?_
    refine lv_icmp_lt (tgt := 48) hx hb dX3_whole_34 (by decide) (fun c52798 => ?_) (fun c52798 => ?_)
    · have w52799 := cv_lt (rfl : z52797.toInt = z52797.toInt) (rfl : p1.toInt = p1.toInt) c52798
      refine lv_aload_n hx hb dX3_whole_48 rfl (lv_at hl 0 rfl) ?_
      refine lv_iconst (v := 4) hx hb dX3_whole_49 (by decide) ?_
      refine lv_aload_n hx hb dX3_whole_50 rfl (lv_at hl 0 rfl) ?_
      refine t_get (C := RX3) (T := TX3) (N := 13) X hT m0 g0 rfl rfl 0 (by decide) qw_73 inlX3 rfl dX3_whole_51 (fun v52800 hv52800 ov52800 => ?_)
      obtain rfl : v52800 = .ref x0 := hv52800.symm.trans pf0
      refine t_get (C := RX8) (T := TX8) (N := 8) X hT mx0 gx0 rfl rfl 4 (by decide) qw_227 inlX8 rfl dX3_whole_54 (fun v52801 hv52801 ov52801 => ?_)
      obtain ⟨z52802, rfl, rz52802⟩ := okV_i ov52801
      refine t_cVv (n := 2) (C := RX3) (T := TX3) (N := 13) (As := [.int 4, .int z52802]) (rest := []) X hT (kt111_X3_fail l G tag L F hT.2.2.2 p0 4 z52802 m0 g0 (by decide)) m0 g0 rfl rfl qw_287 qw_288 qw_289 qw_28 qw_290 ⟨rfl, by decide +kernel, by decide +kernel, by decide +kernel⟩ ⟨Nat.le_of_ble_eq_true rfl, Nat.le_of_ble_eq_true rfl⟩ hl rfl rfl (Nat.le_of_ble_eq_true rfl) dX3_whole_57 ⟨Nat.le_of_ble_eq_true rfl, Nat.le_of_ble_eq_true rfl⟩ (fun F H locs hT hz52803 => ?_)
      obtain ⟨yz52803, xz52803_0⟩ := hz52803
      have pf0 := (yz52803.1 _ 0 (Or.inr (by decide)) (Or.inr (by decide))).trans pf0
      have pf1 := (yz52803.1 _ 1 (Or.inr (by decide)) (Or.inr (by decide))).trans pf1
      have pf2 := (yz52803.1 _ 2 (Or.inr (by decide)) (Or.inr (by decide))).trans pf2
      have pf3 := (yz52803.1 _ 0 (Or.inr (by decide)) (Or.inr (by decide))).trans pf3
      have pf4 := (yz52803.1 _ 10 (Or.inr (by decide)) (Or.inr (by decide))).trans pf4
      have pf5 := (yz52803.1 _ 11 (Or.inr (by decide)) (Or.inr (by decide))).trans pf5
      have hv52791 := (yz52803.1 _ 3 (Or.inl (by rw [gx0]; decide)) (Or.inr (by decide))).trans hv52791
      have hv52796 := (yz52803.1 _ 6 (Or.inr (by decide)) (Or.inr (by decide))).trans hv52796
      have hv52801 := (yz52803.1 _ 4 (Or.inr (by decide)) (Or.inl (by rw [gx0]; decide))).trans hv52801
      have hfr : (∀ b j : Nat, (tag b ≠ 24 ∨ j ≠ 2) → (tag b ≠ 24 ∨ j ≠ 3) → (tag b ≠ 24 ∨ j ≠ 4) → (tag b ≠ 24 ∨ j ≠ 5) → (tag b ≠ 24 ∨ j ≠ 6) → (tag b ≠ 24 ∨ j ≠ 7) → (tag b ≠ 25 ∨ j ≠ 3) → (tag b ≠ 25 ∨ j ≠ 4) → fld F b j = fld Fo b j) ∧ EF tag F Fo := ⟨fun b j n24_2 n24_3 n24_4 n24_5 n24_6 n24_7 n25_3 n25_4 => (yz52803.1 b j n25_3 n25_4).trans (hfr.1 b j n24_2 n24_3 n24_4 n24_5 n24_6 n24_7 n25_3 n25_4), fun b j hb => (yz52803.2 b j hb).trans (hfr.2 b j hb)⟩
      obtain ⟨z52804, qz52804, rz52804⟩ := xz52803_0
      refine lv_aload_n hx hb dX3_whole_60 rfl (lv_at hl 0 rfl) ?_
      refine t_get (C := RX3) (T := TX3) (N := 13) X hT m0 g0 rfl rfl 3 (by decide) qw_163 inlX3 rfl dX3_whole_61 (fun v52805 hv52805 ov52805 => ?_)
      obtain rfl : v52805 = .int z52804 := hv52805.symm.trans qz52804
      refine lv_if_eq (tgt := 69) hx hb dX3_whole_64 (by decide) (fun c52806 => ?_) (fun c52806 => ?_)
      · have w52807 := cv_eq (rfl : z52804.toInt = z52804.toInt) (by decide : (0 : Int32).toInt = 0) c52806
        exfalso
        omega
      · have w52808 := cv_ne (rfl : z52804.toInt = z52804.toInt) (by decide : (0 : Int32).toInt = 0) c52806
        refine lv_iload_n hx hb dX3_whole_67 rfl (lv_at hl 1 rfl) ?_
        exact t_iret hQ X hT (⟨(by omega), hfr⟩) (Nat.le_of_ble_eq_true rfl) (Nat.le_of_ble_eq_true rfl) dX3_whole_68
    · have w52809 := cv_nlt (rfl : z52797.toInt = z52797.toInt) (rfl : p1.toInt = p1.toInt) c52798
      refine lv_aload_n hx hb dX3_whole_37 rfl (lv_at hl 0 rfl) ?_
      refine t_get (C := RX3) (T := TX3) (N := 13) X hT m0 g0 rfl rfl 0 (by decide) qw_73 inlX3 rfl dX3_whole_38 (fun v52810 hv52810 ov52810 => ?_)
      obtain rfl : v52810 = .ref x0 := hv52810.symm.trans pf0
      refine t_get (C := RX8) (T := TX8) (N := 8) X hT mx0 gx0 rfl rfl 6 (by decide) qw_322 inlX8 rfl dX3_whole_41 (fun v52811 hv52811 ov52811 => ?_)
      obtain rfl : v52811 = .int z52797 := hv52811.symm.trans hv52796
      refine lv_iload_n hx hb dX3_whole_44 rfl (lv_at hl 2 rfl) ?_
      refine lv_icmp_le (tgt := 60) hx hb dX3_whole_45 (by decide) (fun c52812 => ?_) (fun c52812 => ?_)
      · have w52813 := cv_le (rfl : z52797.toInt = z52797.toInt) (rfl : p2.toInt = p2.toInt) c52812
        refine lv_aload_n hx hb dX3_whole_60 rfl (lv_at hl 0 rfl) ?_
        refine t_get (C := RX3) (T := TX3) (N := 13) X hT m0 g0 rfl rfl 3 (by decide) qw_163 inlX3 rfl dX3_whole_61 (fun v52814 hv52814 ov52814 => ?_)
        obtain ⟨z52815, rfl, rz52815⟩ := okV_i ov52814
        refine lv_if_eq (tgt := 69) hx hb dX3_whole_64 (by decide) (fun c52816 => ?_) (fun c52816 => ?_)
        · have w52817 := cv_eq (rfl : z52815.toInt = z52815.toInt) (by decide : (0 : Int32).toInt = 0) c52816
          refine lv_aload_n hx hb dX3_whole_69 rfl (lv_at hl 0 rfl) ?_
          refine t_get (C := RX3) (T := TX3) (N := 13) X hT m0 g0 rfl rfl 0 (by decide) qw_73 inlX3 rfl dX3_whole_70 (fun v52818 hv52818 ov52818 => ?_)
          obtain rfl : v52818 = .ref x0 := hv52818.symm.trans pf0
          refine t_get (C := RX8) (T := TX8) (N := 8) X hT mx0 gx0 rfl rfl 6 (by decide) qw_322 inlX8 rfl dX3_whole_73 (fun v52819 hv52819 ov52819 => ?_)
          obtain rfl : v52819 = .int z52797 := hv52819.symm.trans hv52796
          refine lv_istore_n (lv' := [(3, .int z52797), (0, .ref p0), (1, .int p1), (2, .int p2)]) hx hb dX3_whole_76 rfl hl (by decide) rfl (fun ls hl => ?_)
          refine lv_aload_n hx hb dX3_whole_77 rfl (lv_at hl 1 rfl) ?_
          refine t_get (C := RX3) (T := TX3) (N := 13) X hT m0 g0 rfl rfl 0 (by decide) qw_73 inlX3 rfl dX3_whole_78 (fun v52820 hv52820 ov52820 => ?_)
          obtain rfl : v52820 = .ref x0 := hv52820.symm.trans pf0
          refine t_cVv (n := 0) (C := RX8) (T := TX8) (N := 8) (As := []) (rest := []) X hT (kt98_X8_advance l G tag L F hT.2.2.2 x0 x3 mx0 gx0 mx3 gx3 pf3) mx0 gx0 rfl rfl qw_305 qw_197 qw_198 qw_72 qw_199 ⟨rfl, by decide +kernel, by decide +kernel, by decide +kernel⟩ ⟨Nat.le_of_ble_eq_true rfl, Nat.le_of_ble_eq_true rfl⟩ hl rfl rfl (Nat.le_of_ble_eq_true rfl) dX3_whole_81 ⟨Nat.le_of_ble_eq_true rfl, Nat.le_of_ble_eq_true rfl⟩ (fun F H locs hT hz52821 => ?_)
          have yz52821 := hz52821
          have pf0 := (yz52821.1 _ 0 (Or.inr (by decide)) (Or.inr (by decide)) (Or.inr (by decide)) (Or.inr (by decide)) (Or.inr (by decide)) (Or.inr (by decide))).trans pf0
          have pf1 := (yz52821.1 _ 1 (Or.inr (by decide)) (Or.inr (by decide)) (Or.inr (by decide)) (Or.inr (by decide)) (Or.inr (by decide)) (Or.inr (by decide))).trans pf1
          have pf2 := (yz52821.1 _ 2 (Or.inl (by rw [g0]; decide)) (Or.inr (by decide)) (Or.inr (by decide)) (Or.inr (by decide)) (Or.inr (by decide)) (Or.inr (by decide))).trans pf2
          have pf3 := (yz52821.1 _ 0 (Or.inr (by decide)) (Or.inr (by decide)) (Or.inr (by decide)) (Or.inr (by decide)) (Or.inr (by decide)) (Or.inr (by decide))).trans pf3
          have pf4 := (yz52821.1 _ 10 (Or.inr (by decide)) (Or.inr (by decide)) (Or.inr (by decide)) (Or.inr (by decide)) (Or.inr (by decide)) (Or.inr (by decide))).trans pf4
          have pf5 := (yz52821.1 _ 11 (Or.inr (by decide)) (Or.inr (by decide)) (Or.inr (by decide)) (Or.inr (by decide)) (Or.inr (by decide)) (Or.inr (by decide))).trans pf5
          have hv52814 := (yz52821.1 _ 3 (Or.inr (by decide)) (Or.inl (by rw [g0]; decide)) (Or.inr (by decide)) (Or.inr (by decide)) (Or.inr (by decide)) (Or.inr (by decide))).trans hv52814
          have hfr : (∀ b j : Nat, (tag b ≠ 24 ∨ j ≠ 2) → (tag b ≠ 24 ∨ j ≠ 3) → (tag b ≠ 24 ∨ j ≠ 4) → (tag b ≠ 24 ∨ j ≠ 5) → (tag b ≠ 24 ∨ j ≠ 6) → (tag b ≠ 24 ∨ j ≠ 7) → (tag b ≠ 25 ∨ j ≠ 3) → (tag b ≠ 25 ∨ j ≠ 4) → fld F b j = fld Fo b j) ∧ EF tag F Fo := ⟨fun b j n24_2 n24_3 n24_4 n24_5 n24_6 n24_7 n25_3 n25_4 => (yz52821.1 b j n24_2 n24_3 n24_4 n24_5 n24_6 n24_7).trans (hfr.1 b j n24_2 n24_3 n24_4 n24_5 n24_6 n24_7 n25_3 n25_4), fun b j hb => (yz52821.2 b j hb).trans (hfr.2 b j hb)⟩
          refine lv_iload_n hx hb dX3_whole_84 rfl (lv_at hl 0 rfl) ?_
          exact t_iret hQ X hT (⟨(by omega), hfr⟩) (Nat.le_of_ble_eq_true rfl) (Nat.le_of_ble_eq_true rfl) dX3_whole_85
        · have w52822 := cv_ne (rfl : z52815.toInt = z52815.toInt) (by decide : (0 : Int32).toInt = 0) c52816
          refine lv_iload_n hx hb dX3_whole_67 rfl (lv_at hl 1 rfl) ?_
          exact t_iret hQ X hT (⟨(by omega), hfr⟩) (Nat.le_of_ble_eq_true rfl) (Nat.le_of_ble_eq_true rfl) dX3_whole_68
      · have w52823 := cv_nle (rfl : z52797.toInt = z52797.toInt) (rfl : p2.toInt = p2.toInt) c52812
        refine lv_aload_n hx hb dX3_whole_48 rfl (lv_at hl 0 rfl) ?_
        refine lv_iconst (v := 4) hx hb dX3_whole_49 (by decide) ?_
        refine lv_aload_n hx hb dX3_whole_50 rfl (lv_at hl 0 rfl) ?_
        refine t_get (C := RX3) (T := TX3) (N := 13) X hT m0 g0 rfl rfl 0 (by decide) qw_73 inlX3 rfl dX3_whole_51 (fun v52824 hv52824 ov52824 => ?_)
        obtain rfl : v52824 = .ref x0 := hv52824.symm.trans pf0
        refine t_get (C := RX8) (T := TX8) (N := 8) X hT mx0 gx0 rfl rfl 4 (by decide) qw_227 inlX8 rfl dX3_whole_54 (fun v52825 hv52825 ov52825 => ?_)
        obtain ⟨z52826, rfl, rz52826⟩ := okV_i ov52825
        refine t_cVv (n := 2) (C := RX3) (T := TX3) (N := 13) (As := [.int 4, .int z52826]) (rest := []) X hT (kt111_X3_fail l G tag L F hT.2.2.2 p0 4 z52826 m0 g0 (by decide)) m0 g0 rfl rfl qw_287 qw_288 qw_289 qw_28 qw_290 ⟨rfl, by decide +kernel, by decide +kernel, by decide +kernel⟩ ⟨Nat.le_of_ble_eq_true rfl, Nat.le_of_ble_eq_true rfl⟩ hl rfl rfl (Nat.le_of_ble_eq_true rfl) dX3_whole_57 ⟨Nat.le_of_ble_eq_true rfl, Nat.le_of_ble_eq_true rfl⟩ (fun F H locs hT hz52827 => ?_)
        obtain ⟨yz52827, xz52827_0⟩ := hz52827
        have pf0 := (yz52827.1 _ 0 (Or.inr (by decide)) (Or.inr (by decide))).trans pf0
        have pf1 := (yz52827.1 _ 1 (Or.inr (by decide)) (Or.inr (by decide))).trans pf1
        have pf2 := (yz52827.1 _ 2 (Or.inr (by decide)) (Or.inr (by decide))).trans pf2
        have pf3 := (yz52827.1 _ 0 (Or.inr (by decide)) (Or.inr (by decide))).trans pf3
        have pf4 := (yz52827.1 _ 10 (Or.inr (by decide)) (Or.inr (by decide))).trans pf4
        have pf5 := (yz52827.1 _ 11 (Or.inr (by decide)) (Or.inr (by decide))).trans pf5
        have hv52791 := (yz52827.1 _ 3 (Or.inl (by rw [gx0]; decide)) (Or.inr (by decide))).trans hv52791
        have hv52796 := (yz52827.1 _ 6 (Or.inr (by decide)) (Or.inr (by decide))).trans hv52796
        have hv52825 := (yz52827.1 _ 4 (Or.inr (by decide)) (Or.inl (by rw [gx0]; decide))).trans hv52825
        have hfr : (∀ b j : Nat, (tag b ≠ 24 ∨ j ≠ 2) → (tag b ≠ 24 ∨ j ≠ 3) → (tag b ≠ 24 ∨ j ≠ 4) → (tag b ≠ 24 ∨ j ≠ 5) → (tag b ≠ 24 ∨ j ≠ 6) → (tag b ≠ 24 ∨ j ≠ 7) → (tag b ≠ 25 ∨ j ≠ 3) → (tag b ≠ 25 ∨ j ≠ 4) → fld F b j = fld Fo b j) ∧ EF tag F Fo := ⟨fun b j n24_2 n24_3 n24_4 n24_5 n24_6 n24_7 n25_3 n25_4 => (yz52827.1 b j n25_3 n25_4).trans (hfr.1 b j n24_2 n24_3 n24_4 n24_5 n24_6 n24_7 n25_3 n25_4), fun b j hb => (yz52827.2 b j hb).trans (hfr.2 b j hb)⟩
        obtain ⟨z52828, qz52828, rz52828⟩ := xz52827_0
        refine lv_aload_n hx hb dX3_whole_60 rfl (lv_at hl 0 rfl) ?_
        refine t_get (C := RX3) (T := TX3) (N := 13) X hT m0 g0 rfl rfl 3 (by decide) qw_163 inlX3 rfl dX3_whole_61 (fun v52829 hv52829 ov52829 => ?_)
        obtain rfl : v52829 = .int z52828 := hv52829.symm.trans qz52828
        refine lv_if_eq (tgt := 69) hx hb dX3_whole_64 (by decide) (fun c52830 => ?_) (fun c52830 => ?_)
        · have w52831 := cv_eq (rfl : z52828.toInt = z52828.toInt) (by decide : (0 : Int32).toInt = 0) c52830
          exfalso
          omega
        · have w52832 := cv_ne (rfl : z52828.toInt = z52828.toInt) (by decide : (0 : Int32).toInt = 0) c52830
          refine lv_iload_n hx hb dX3_whole_67 rfl (lv_at hl 1 rfl) ?_
          exact t_iret hQ X hT (⟨(by omega), hfr⟩) (Nat.le_of_ble_eq_true rfl) (Nat.le_of_ble_eq_true rfl) dX3_whole_68
  · have w52833 := cv_ne (rfl : z52792.toInt = z52792.toInt) (by decide : (2 : Int32).toInt = 2) c52793
    refine lv_aload_n hx hb dX3_whole_11 rfl (lv_at hl 0 rfl) ?_
    refine lv_iconst (v := 1) hx hb dX3_whole_12 (by decide) ?_
    refine lv_aload_n hx hb dX3_whole_13 rfl (lv_at hl 0 rfl) ?_
    refine t_get (C := RX3) (T := TX3) (N := 13) X hT m0 g0 rfl rfl 0 (by decide) qw_73 inlX3 rfl dX3_whole_14 (fun v52834 hv52834 ov52834 => ?_)
    obtain rfl : v52834 = .ref x0 := hv52834.symm.trans pf0
    refine t_get (C := RX8) (T := TX8) (N := 8) X hT mx0 gx0 rfl rfl 4 (by decide) qw_227 inlX8 rfl dX3_whole_17 (fun v52835 hv52835 ov52835 => ?_)
    obtain ⟨z52836, rfl, rz52836⟩ := okV_i ov52835
    refine t_cVv (n := 2) (C := RX3) (T := TX3) (N := 13) (As := [.int 1, .int z52836]) (rest := []) X hT (kt111_X3_fail l G tag L F hT.2.2.2 p0 1 z52836 m0 g0 (by decide)) m0 g0 rfl rfl qw_287 qw_288 qw_289 qw_28 qw_290 ⟨rfl, by decide +kernel, by decide +kernel, by decide +kernel⟩ ⟨Nat.le_of_ble_eq_true rfl, Nat.le_of_ble_eq_true rfl⟩ hl rfl rfl (Nat.le_of_ble_eq_true rfl) dX3_whole_20 ⟨Nat.le_of_ble_eq_true rfl, Nat.le_of_ble_eq_true rfl⟩ (fun F H locs hT hz52837 => ?_)
    obtain ⟨yz52837, xz52837_0⟩ := hz52837
    have pf0 := (yz52837.1 _ 0 (Or.inr (by decide)) (Or.inr (by decide))).trans pf0
    have pf1 := (yz52837.1 _ 1 (Or.inr (by decide)) (Or.inr (by decide))).trans pf1
    have pf2 := (yz52837.1 _ 2 (Or.inr (by decide)) (Or.inr (by decide))).trans pf2
    have pf3 := (yz52837.1 _ 0 (Or.inr (by decide)) (Or.inr (by decide))).trans pf3
    have pf4 := (yz52837.1 _ 10 (Or.inr (by decide)) (Or.inr (by decide))).trans pf4
    have pf5 := (yz52837.1 _ 11 (Or.inr (by decide)) (Or.inr (by decide))).trans pf5
    have hv52791 := (yz52837.1 _ 3 (Or.inl (by rw [gx0]; decide)) (Or.inr (by decide))).trans hv52791
    have hv52835 := (yz52837.1 _ 4 (Or.inr (by decide)) (Or.inl (by rw [gx0]; decide))).trans hv52835
    have hfr : (∀ b j : Nat, (tag b ≠ 24 ∨ j ≠ 2) → (tag b ≠ 24 ∨ j ≠ 3) → (tag b ≠ 24 ∨ j ≠ 4) → (tag b ≠ 24 ∨ j ≠ 5) → (tag b ≠ 24 ∨ j ≠ 6) → (tag b ≠ 24 ∨ j ≠ 7) → (tag b ≠ 25 ∨ j ≠ 3) → (tag b ≠ 25 ∨ j ≠ 4) → fld F b j = fld Fo b j) ∧ EF tag F Fo := ⟨fun b j n24_2 n24_3 n24_4 n24_5 n24_6 n24_7 n25_3 n25_4 => (yz52837.1 b j n25_3 n25_4).trans (hfr.1 b j n24_2 n24_3 n24_4 n24_5 n24_6 n24_7 n25_3 n25_4), fun b j hb => (yz52837.2 b j hb).trans (hfr.2 b j hb)⟩
    obtain ⟨z52838, qz52838, rz52838⟩ := xz52837_0
    refine lv_goto (tgt := 60) hx hb dX3_whole_23 (by decide) ?_
    refine lv_aload_n hx hb dX3_whole_60 rfl (lv_at hl 0 rfl) ?_
    refine t_get (C := RX3) (T := TX3) (N := 13) X hT m0 g0 rfl rfl 3 (by decide) qw_163 inlX3 rfl dX3_whole_61 (fun v52839 hv52839 ov52839 => ?_)
    obtain rfl : v52839 = .int z52838 := hv52839.symm.trans qz52838
    refine lv_if_eq (tgt := 69) hx hb dX3_whole_64 (by decide) (fun c52840 => ?_) (fun c52840 => ?_)
    · have w52841 := cv_eq (rfl : z52838.toInt = z52838.toInt) (by decide : (0 : Int32).toInt = 0) c52840
      exfalso
      omega
    · have w52842 := cv_ne (rfl : z52838.toInt = z52838.toInt) (by decide : (0 : Int32).toInt = 0) c52840
      refine lv_iload_n hx hb dX3_whole_67 rfl (lv_at hl 1 rfl) ?_
      exact t_iret hQ X hT (⟨(by omega), hfr⟩) (Nat.le_of_ble_eq_true rfl) (Nat.le_of_ble_eq_true rfl) dX3_whole_68
