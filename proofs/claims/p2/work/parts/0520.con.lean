set_option maxHeartbeats 4000000 in
set_option maxRecDepth 100000 in
theorem kt151_X3_readWater (l : Launch) (G : KG) (tag : Nat → Nat) (L : List Nat) (Fo : Nat → va_E) (ho : okT G ttC tag L Fo) (p0 : Nat) (x0 : Nat) (x1 : Nat) (x2 : Nat) (x3 : Nat) (m0 : p0 ∈ L) (g0 : tag p0 = 25) (mx0 : x0 ∈ L) (gx0 : tag x0 = 24) (pf0 : fld Fo p0 0 = .ref x0) (mx1 : x1 ∈ L) (gx1 : tag x1 = 18) (pf1 : fld Fo p0 1 = .ref x1) (mx2 : x2 ∈ L) (gx2 : tag x2 = 19) (pf2 : fld Fo p0 2 = .ref x2) (mx3 : x3 ∈ L) (gx3 : tag x3 = 1) (pf3 : fld Fo x0 0 = .ref x3) : TMv l yX3_readWater cX3_readWater 3 { frames := 4, cells := 0, slots := 0, locals := 85 } G ttC tag L Fo [.ref p0] (fun F1 => ((∀ b j : Nat, (tag b ≠ 24 ∨ j ≠ 2) → (tag b ≠ 24 ∨ j ≠ 3) → (tag b ≠ 24 ∨ j ≠ 4) → (tag b ≠ 24 ∨ j ≠ 5) → (tag b ≠ 24 ∨ j ≠ 6) → (tag b ≠ 24 ∨ j ≠ 7) → (tag b ≠ 25 ∨ j ≠ 3) → (tag b ≠ 25 ∨ j ≠ 4) → (tag b ≠ 25 ∨ j ≠ 7) → fld F1 b j = fld Fo b j) ∧ EF tag F1 Fo)) := by
  refine t_bodyv (y := yX3_readWater) (cd := cX3_readWater) (mL := 3) (rm := { frames := 4, cells := 0, slots := 0, locals := 85 }) (av := [.ref p0]) (by decide) (Nat.le_of_ble_eq_true rfl) ho ?_
  intro p e s m args below meth c ls A Q hQ X hT hl
  have hx := X.1.1
  have hb := X.1.2.1
  have hl : lv_has ls 3 [(0, .ref p0)] := hl
  obtain ⟨F, hFo⟩ : ∃ F : Nat → va_E, F = Fo := ⟨_, rfl⟩
  rw [← hFo] at hT pf0 pf1 pf2 pf3
  have hfr : (∀ b j : Nat, (tag b ≠ 24 ∨ j ≠ 2) → (tag b ≠ 24 ∨ j ≠ 3) → (tag b ≠ 24 ∨ j ≠ 4) → (tag b ≠ 24 ∨ j ≠ 5) → (tag b ≠ 24 ∨ j ≠ 6) → (tag b ≠ 24 ∨ j ≠ 7) → (tag b ≠ 25 ∨ j ≠ 3) → (tag b ≠ 25 ∨ j ≠ 4) → (tag b ≠ 25 ∨ j ≠ 7) → fld F b j = fld Fo b j) ∧ EF tag F Fo := by
    rw [hFo]
    exact ⟨by intros; rfl, fun _ _ _ => rfl⟩
  have K60 : ∀ (z56926 : Int32) (z56927 : Int32) (F : Nat → va_E) (H : Heap) (locs : List Loc) (ls : Array Slot), TH G ttC A s tag L F H locs → ((∀ b j : Nat, (tag b ≠ 24 ∨ j ≠ 2) → (tag b ≠ 24 ∨ j ≠ 3) → (tag b ≠ 24 ∨ j ≠ 4) → (tag b ≠ 24 ∨ j ≠ 5) → (tag b ≠ 24 ∨ j ≠ 6) → (tag b ≠ 24 ∨ j ≠ 7) → (tag b ≠ 25 ∨ j ≠ 3) → (tag b ≠ 25 ∨ j ≠ 4) → (tag b ≠ 25 ∨ j ≠ 7) → fld F b j = fld Fo b j) ∧ EF tag F Fo) → fld F p0 0 = .ref x0 → fld F p0 1 = .ref x1 → fld F p0 2 = .ref x2 → fld F x0 0 = .ref x3 → lv_has ls 3 [(0, .ref p0), (1, .int z56926), (2, .int z56927)] → W p l e { frames := 4, cells := 0, slots := 0, locals := 85 } s m args below meth c H locs 0 0 Q (F0 m 60 ls []) := by
    intro z56926 z56927 F H locs ls hT hfr pf0 pf1 pf2 pf3 hl
    have rz56926 := rg_all z56926
    have rz56927 := rg_all z56927
    refine lv_aload_n hx hb dX3_readWater_60 rfl (lv_at hl 0 rfl) ?_
    refine t_get (C := RX3) (T := TX3) (N := 13) X hT m0 g0 rfl rfl 1 (by decide) qw_161 inlX3 rfl dX3_readWater_61 (fun v56928 hv56928 ov56928 => ?_)
    obtain rfl : v56928 = .ref x1 := hv56928.symm.trans pf1
    refine lv_iload_n hx hb dX3_readWater_64 rfl (lv_at hl 1 rfl) ?_
    refine lv_iload_n hx hb dX3_readWater_65 rfl (lv_at hl 2 rfl) ?_
    refine t_cVv (n := 2) (C := RX1) (T := TX1) (N := 20) (As := [.int z56926, .int z56927]) (rest := []) X hT (kt8_X1_addWater l G tag L F hT.2.2.2 x1 z56926 z56927 mx1 gx1) mx1 gx1 rfl rfl qw_348 qw_349 qw_350 qw_17 qw_351 ⟨rfl, by decide +kernel, by decide +kernel, by decide +kernel⟩ ⟨Nat.le_of_ble_eq_true rfl, Nat.le_of_ble_eq_true rfl⟩ hl rfl rfl (Nat.le_of_ble_eq_true rfl) dX3_readWater_66 ⟨Nat.le_of_ble_eq_true rfl, Nat.le_of_ble_eq_true rfl⟩ (fun F H locs hT hz56929 => ?_)
    have yz56929 := hz56929
    have pf0 := (yz56929.1 _ 0 ).trans pf0
    have pf1 := (yz56929.1 _ 1 ).trans pf1
    have pf2 := (yz56929.1 _ 2 ).trans pf2
    have pf3 := (yz56929.1 _ 0 ).trans pf3
    have hfr : (∀ b j : Nat, (tag b ≠ 24 ∨ j ≠ 2) → (tag b ≠ 24 ∨ j ≠ 3) → (tag b ≠ 24 ∨ j ≠ 4) → (tag b ≠ 24 ∨ j ≠ 5) → (tag b ≠ 24 ∨ j ≠ 6) → (tag b ≠ 24 ∨ j ≠ 7) → (tag b ≠ 25 ∨ j ≠ 3) → (tag b ≠ 25 ∨ j ≠ 4) → (tag b ≠ 25 ∨ j ≠ 7) → fld F b j = fld Fo b j) ∧ EF tag F Fo := ⟨fun b j n24_2 n24_3 n24_4 n24_5 n24_6 n24_7 n25_3 n25_4 n25_7 => (yz56929.1 b j ).trans (hfr.1 b j n24_2 n24_3 n24_4 n24_5 n24_6 n24_7 n25_3 n25_4 n25_7), fun b j hb => (yz56929.2 b j hb).trans (hfr.2 b j hb)⟩
    refine lv_aload_n hx hb dX3_readWater_69 rfl (lv_at hl 0 rfl) ?_
    refine lv_dup hx hb dX3_readWater_70 rfl ?_
    refine t_get (C := RX3) (T := TX3) (N := 13) X hT m0 g0 rfl rfl 7 (by decide) qw_167 inlX3 rfl dX3_readWater_71 (fun v56930 hv56930 ov56930 => ?_)
    obtain ⟨z56931, rfl, rz56931⟩ := okV_i ov56930
    refine lv_iconst (v := 1) hx hb dX3_readWater_74 (by decide) ?_
    refine lv_iadd hx hb dX3_readWater_75 ?_
    refine lv_topi (fun z56932 ez56932 => ?_)
    have rz56932 := rg_all z56932
    refine t_put (C := RX3) (T := TX3) (N := 13) (v := .int z56932) X hT m0 g0 rfl tyX3 tyX3_ok nmX3 rfl 7 (by decide) qw_167 inlX3 rfl (by first | rfl | decide) (by first | rfl | decide) rfl (⟨_, rfl, (show (-2147483648) ≤ (z56932 : Int32).toInt from (by omega)), (show (z56932 : Int32).toInt ≤ 2147483647 from (by omega))⟩) dX3_readWater_76 (fun F H locs hT v56933 h1v56933 h2v56933 => ?_)
    have pf0 := (h1v56933 _ _ (Or.inr (by decide))).trans pf0
    have pf1 := (h1v56933 _ _ (Or.inr (by decide))).trans pf1
    have pf2 := (h1v56933 _ _ (Or.inr (by decide))).trans pf2
    have pf3 := (h1v56933 _ _ (Or.inr (by decide))).trans pf3
    have hfr : (∀ b j : Nat, (tag b ≠ 24 ∨ j ≠ 2) → (tag b ≠ 24 ∨ j ≠ 3) → (tag b ≠ 24 ∨ j ≠ 4) → (tag b ≠ 24 ∨ j ≠ 5) → (tag b ≠ 24 ∨ j ≠ 6) → (tag b ≠ 24 ∨ j ≠ 7) → (tag b ≠ 25 ∨ j ≠ 3) → (tag b ≠ 25 ∨ j ≠ 4) → (tag b ≠ 25 ∨ j ≠ 7) → fld F b j = fld Fo b j) ∧ EF tag F Fo := ⟨fun b j n24_2 n24_3 n24_4 n24_5 n24_6 n24_7 n25_3 n25_4 n25_7 => (h1v56933 b j (fr_ne g0 n25_7)).trans (hfr.1 b j n24_2 n24_3 n24_4 n24_5 n24_6 n24_7 n25_3 n25_4 n25_7), fun b j hb => (h2v56933 b j).trans (hfr.2 b j hb)⟩
    exact t_vret hQ X hT hfr (Nat.le_of_ble_eq_true rfl) (Nat.le_of_ble_eq_true rfl) dX3_readWater_79
  refine lv_aload_n hx hb dX3_readWater_0 rfl (lv_at hl 0 rfl) ?_
  refine lv_iconst (v := 0) hx hb dX3_readWater_1 (by decide) ?_
  refine lv_aload_n hx hb dX3_readWater_2 rfl (lv_at hl 0 rfl) ?_
  refine t_get (C := RX3) (T := TX3) (N := 13) X hT m0 g0 rfl rfl 1 (by decide) qw_161 inlX3 rfl dX3_readWater_3 (fun v56934 hv56934 ov56934 => ?_)
  obtain rfl : v56934 = .ref x1 := hv56934.symm.trans pf1
  refine t_get (C := RX1) (T := TX1) (N := 20) X hT mx1 gx1 rfl rfl 0 (by decide) qw_310 inlX1 rfl dX3_readWater_6 (fun v56935 hv56935 ov56935 => ?_)
  obtain ⟨z56936, rfl, rz56936⟩ := okV_i ov56935
  refine lv_iconst (v := 1) hx hb dX3_readWater_9 (by decide) ?_
  refine lv_isub hx hb dX3_readWater_10 ?_
  refine lv_topi (fun z56937 ez56937 => ?_)
  have hz56937 : z56937.toInt = z56936.toInt - 1 := ar_sub ez56937 (rfl : z56936.toInt = z56936.toInt) (by decide : (1 : Int32).toInt = 1) (by omega) (by omega)
  have rz56937 : (-1) ≤ z56937.toInt ∧ z56937.toInt ≤ 11 := by omega
  refine t_cVi (n := 2) (C := RX3) (T := TX3) (N := 13) (As := [.int 0, .int z56937]) (rest := []) X hT (kt149_X3_whole l G tag L F hT.2.2.2 p0 0 z56937 x0 x1 x2 x3 m0 g0 mx0 gx0 pf0 mx1 gx1 pf1 mx2 gx2 pf2 mx3 gx3 pf3) m0 g0 rfl rfl qw_318 qw_319 qw_320 qw_28 qw_321 ⟨rfl, by decide +kernel, by decide +kernel, by decide +kernel⟩ ⟨Nat.le_of_ble_eq_true rfl, Nat.le_of_ble_eq_true rfl⟩ hl rfl rfl (Nat.le_of_ble_eq_true rfl) dX3_readWater_11 ⟨Nat.le_of_ble_eq_true rfl, Nat.le_of_ble_eq_true rfl⟩ (fun z56938 F H locs hT hz56938 => ?_)
  obtain ⟨hz56938, yz56938⟩ := hz56938
  have pf0 := (yz56938.1 _ 0 (Or.inr (by decide)) (Or.inr (by decide)) (Or.inr (by decide)) (Or.inr (by decide)) (Or.inr (by decide)) (Or.inr (by decide)) (Or.inr (by decide)) (Or.inr (by decide))).trans pf0
  have pf1 := (yz56938.1 _ 1 (Or.inr (by decide)) (Or.inr (by decide)) (Or.inr (by decide)) (Or.inr (by decide)) (Or.inr (by decide)) (Or.inr (by decide)) (Or.inr (by decide)) (Or.inr (by decide))).trans pf1
  have pf2 := (yz56938.1 _ 2 (Or.inl (by rw [g0]; decide)) (Or.inr (by decide)) (Or.inr (by decide)) (Or.inr (by decide)) (Or.inr (by decide)) (Or.inr (by decide)) (Or.inr (by decide)) (Or.inr (by decide))).trans pf2
  have pf3 := (yz56938.1 _ 0 (Or.inr (by decide)) (Or.inr (by decide)) (Or.inr (by decide)) (Or.inr (by decide)) (Or.inr (by decide)) (Or.inr (by decide)) (Or.inr (by decide)) (Or.inr (by decide))).trans pf3
  have hv56935 := (yz56938.1 _ 0 (Or.inr (by decide)) (Or.inr (by decide)) (Or.inr (by decide)) (Or.inr (by decide)) (Or.inr (by decide)) (Or.inr (by decide)) (Or.inr (by decide)) (Or.inr (by decide))).trans hv56935
  have hfr : (∀ b j : Nat, (tag b ≠ 24 ∨ j ≠ 2) → (tag b ≠ 24 ∨ j ≠ 3) → (tag b ≠ 24 ∨ j ≠ 4) → (tag b ≠ 24 ∨ j ≠ 5) → (tag b ≠ 24 ∨ j ≠ 6) → (tag b ≠ 24 ∨ j ≠ 7) → (tag b ≠ 25 ∨ j ≠ 3) → (tag b ≠ 25 ∨ j ≠ 4) → (tag b ≠ 25 ∨ j ≠ 7) → fld F b j = fld Fo b j) ∧ EF tag F Fo := ⟨fun b j n24_2 n24_3 n24_4 n24_5 n24_6 n24_7 n25_3 n25_4 n25_7 => (yz56938.1 b j n24_2 n24_3 n24_4 n24_5 n24_6 n24_7 n25_3 n25_4).trans (hfr.1 b j n24_2 n24_3 n24_4 n24_5 n24_6 n24_7 n25_3 n25_4 n25_7), fun b j hb => (yz56938.2 b j hb).trans (hfr.2 b j hb)⟩
  refine lv_istore_n (lv' := [(1, .int z56938), (0, .ref p0)]) hx hb dX3_readWater_14 rfl hl (by decide) rfl (fun ls hl => ?_)
  refine lv_aload_n hx hb dX3_readWater_15 rfl (lv_at hl 1 rfl) ?_
  refine lv_bipush (v := 44) hx hb dX3_readWater_16 (by decide) ?_
  refine t_cVv (n := 1) (C := RX3) (T := TX3) (N := 13) (As := [.int 44]) (rest := []) X hT (kt150_X3_sign l G tag L F hT.2.2.2 p0 44 x0 x1 x2 x3 m0 g0 mx0 gx0 pf0 mx1 gx1 pf1 mx2 gx2 pf2 mx3 gx3 pf3) m0 g0 rfl rfl qw_340 qw_341 qw_342 qw_28 qw_343 ⟨rfl, by decide +kernel, by decide +kernel, by decide +kernel⟩ ⟨Nat.le_of_ble_eq_true rfl, Nat.le_of_ble_eq_true rfl⟩ hl rfl rfl (Nat.le_of_ble_eq_true rfl) dX3_readWater_18 ⟨Nat.le_of_ble_eq_true rfl, Nat.le_of_ble_eq_true rfl⟩ (fun F H locs hT hz56939 => ?_)
  have yz56939 := hz56939
  have pf0 := (yz56939.1 _ 0 (Or.inr (by decide)) (Or.inr (by decide)) (Or.inr (by decide)) (Or.inr (by decide)) (Or.inr (by decide)) (Or.inr (by decide)) (Or.inr (by decide)) (Or.inr (by decide))).trans pf0
  have pf1 := (yz56939.1 _ 1 (Or.inr (by decide)) (Or.inr (by decide)) (Or.inr (by decide)) (Or.inr (by decide)) (Or.inr (by decide)) (Or.inr (by decide)) (Or.inr (by decide)) (Or.inr (by decide))).trans pf1
  have pf2 := (yz56939.1 _ 2 (Or.inl (by rw [g0]; decide)) (Or.inr (by decide)) (Or.inr (by decide)) (Or.inr (by decide)) (Or.inr (by decide)) (Or.inr (by decide)) (Or.inr (by decide)) (Or.inr (by decide))).trans pf2
  have pf3 := (yz56939.1 _ 0 (Or.inr (by decide)) (Or.inr (by decide)) (Or.inr (by decide)) (Or.inr (by decide)) (Or.inr (by decide)) (Or.inr (by decide)) (Or.inr (by decide)) (Or.inr (by decide))).trans pf3
  have hv56935 := (yz56939.1 _ 0 (Or.inr (by decide)) (Or.inr (by decide)) (Or.inr (by decide)) (Or.inr (by decide)) (Or.inr (by decide)) (Or.inr (by decide)) (Or.inr (by decide)) (Or.inr (by decide))).trans hv56935
  have hfr : (∀ b j : Nat, (tag b ≠ 24 ∨ j ≠ 2) → (tag b ≠ 24 ∨ j ≠ 3) → (tag b ≠ 24 ∨ j ≠ 4) → (tag b ≠ 24 ∨ j ≠ 5) → (tag b ≠ 24 ∨ j ≠ 6) → (tag b ≠ 24 ∨ j ≠ 7) → (tag b ≠ 25 ∨ j ≠ 3) → (tag b ≠ 25 ∨ j ≠ 4) → (tag b ≠ 25 ∨ j ≠ 7) → fld F b j = fld Fo b j) ∧ EF tag F Fo := ⟨fun b j n24_2 n24_3 n24_4 n24_5 n24_6 n24_7 n25_3 n25_4 n25_7 => (yz56939.1 b j n24_2 n24_3 n24_4 n24_5 n24_6 n24_7 n25_3 n25_4).trans (hfr.1 b j n24_2 n24_3 n24_4 n24_5 n24_6 n24_7 n25_3 n25_4 n25_7), fun b j hb => (yz56939.2 b j hb).trans (hfr.2 b j hb)⟩
  refine lv_aload_n hx hb dX3_readWater_21 rfl (lv_at hl 1 rfl) ?_
  refine lv_iconst (v := 0) hx hb dX3_readWater_22 (by decide) ?_
  refine lv_aload_n hx hb dX3_readWater_23 rfl (lv_at hl 1 rfl) ?_
  refine t_get (C := RX3) (T := TX3) (N := 13) X hT m0 g0 rfl rfl 1 (by decide) qw_161 inlX3 rfl dX3_readWater_24 (fun v56940 hv56940 ov56940 => ?_)
  obtain rfl : v56940 = .ref x1 := hv56940.symm.trans pf1
  refine t_get (C := RX1) (T := TX1) (N := 20) X hT mx1 gx1 rfl rfl 1 (by decide) qw_311 inlX1 rfl dX3_readWater_27 (fun v56941 hv56941 ov56941 => ?_)
  obtain ⟨z56942, rfl, rz56942⟩ := okV_i ov56941
  refine lv_iconst (v := 1) hx hb dX3_readWater_30 (by decide) ?_
  refine lv_isub hx hb dX3_readWater_31 ?_
  refine lv_topi (fun z56943 ez56943 => ?_)
  have hz56943 : z56943.toInt = z56942.toInt - 1 := ar_sub ez56943 (rfl : z56942.toInt = z56942.toInt) (by decide : (1 : Int32).toInt = 1) (by omega) (by omega)
  have rz56943 : (-1) ≤ z56943.toInt ∧ z56943.toInt ≤ 11 := by omega
  refine t_cVi (n := 2) (C := RX3) (T := TX3) (N := 13) (As := [.int 0, .int z56943]) (rest := []) X hT (kt149_X3_whole l G tag L F hT.2.2.2 p0 0 z56943 x0 x1 x2 x3 m0 g0 mx0 gx0 pf0 mx1 gx1 pf1 mx2 gx2 pf2 mx3 gx3 pf3) m0 g0 rfl rfl qw_318 qw_319 qw_320 qw_28 qw_321 ⟨rfl, by decide +kernel, by decide +kernel, by decide +kernel⟩ ⟨Nat.le_of_ble_eq_true rfl, Nat.le_of_ble_eq_true rfl⟩ hl rfl rfl (Nat.le_of_ble_eq_true rfl) dX3_readWater_32 ⟨Nat.le_of_ble_eq_true rfl, Nat.le_of_ble_eq_true rfl⟩ (fun z56944 F H locs hT hz56944 => ?_)
  obtain ⟨hz56944, yz56944⟩ := hz56944
  have pf0 := (yz56944.1 _ 0 (Or.inr (by decide)) (Or.inr (by decide)) (Or.inr (by decide)) (Or.inr (by decide)) (Or.inr (by decide)) (Or.inr (by decide)) (Or.inr (by decide)) (Or.inr (by decide))).trans pf0
  have pf1 := (yz56944.1 _ 1 (Or.inr (by decide)) (Or.inr (by decide)) (Or.inr (by decide)) (Or.inr (by decide)) (Or.inr (by decide)) (Or.inr (by decide)) (Or.inr (by decide)) (Or.inr (by decide))).trans pf1
  have pf2 := (yz56944.1 _ 2 (Or.inl (by rw [g0]; decide)) (Or.inr (by decide)) (Or.inr (by decide)) (Or.inr (by decide)) (Or.inr (by decide)) (Or.inr (by decide)) (Or.inr (by decide)) (Or.inr (by decide))).trans pf2
  have pf3 := (yz56944.1 _ 0 (Or.inr (by decide)) (Or.inr (by decide)) (Or.inr (by decide)) (Or.inr (by decide)) (Or.inr (by decide)) (Or.inr (by decide)) (Or.inr (by decide)) (Or.inr (by decide))).trans pf3
  have hv56935 := (yz56944.1 _ 0 (Or.inr (by decide)) (Or.inr (by decide)) (Or.inr (by decide)) (Or.inr (by decide)) (Or.inr (by decide)) (Or.inr (by decide)) (Or.inr (by decide)) (Or.inr (by decide))).trans hv56935
  have hv56941 := (yz56944.1 _ 1 (Or.inr (by decide)) (Or.inr (by decide)) (Or.inr (by decide)) (Or.inr (by decide)) (Or.inr (by decide)) (Or.inr (by decide)) (Or.inr (by decide)) (Or.inr (by decide))).trans hv56941
  have hfr : (∀ b j : Nat, (tag b ≠ 24 ∨ j ≠ 2) → (tag b ≠ 24 ∨ j ≠ 3) → (tag b ≠ 24 ∨ j ≠ 4) → (tag b ≠ 24 ∨ j ≠ 5) → (tag b ≠ 24 ∨ j ≠ 6) → (tag b ≠ 24 ∨ j ≠ 7) → (tag b ≠ 25 ∨ j ≠ 3) → (tag b ≠ 25 ∨ j ≠ 4) → (tag b ≠ 25 ∨ j ≠ 7) → fld F b j = fld Fo b j) ∧ EF tag F Fo := ⟨fun b j n24_2 n24_3 n24_4 n24_5 n24_6 n24_7 n25_3 n25_4 n25_7 => (yz56944.1 b j n24_2 n24_3 n24_4 n24_5 n24_6 n24_7 n25_3 n25_4).trans (hfr.1 b j n24_2 n24_3 n24_4 n24_5 n24_6 n24_7 n25_3 n25_4 n25_7), fun b j hb => (yz56944.2 b j hb).trans (hfr.2 b j hb)⟩
  refine lv_istore_n (lv' := [(2, .int z56944), (1, .int z56938), (0, .ref p0)]) hx hb dX3_readWater_35 rfl hl (by decide) rfl (fun ls hl => ?_)
  refine lv_aload_n hx hb dX3_readWater_36 rfl (lv_at hl 2 rfl) ?_
  refine t_get (C := RX3) (T := TX3) (N := 13) X hT m0 g0 rfl rfl 1 (by decide) qw_161 inlX3 rfl dX3_readWater_37 (fun v56945 hv56945 ov56945 => ?_)
  obtain rfl : v56945 = .ref x1 := hv56945.symm.trans pf1
  refine lv_iload_n hx hb dX3_readWater_40 rfl (lv_at hl 1 rfl) ?_
  refine lv_iload_n hx hb dX3_readWater_41 rfl (lv_at hl 0 rfl) ?_
  refine t_cVi (n := 2) (C := RX1) (T := TX1) (N := 20) (As := [.int z56938, .int z56944]) (rest := []) X hT (kt7_X1_isWet l G tag L F hT.2.2.2 x1 z56938 z56944 mx1 gx1) mx1 gx1 rfl rfl qw_344 qw_345 qw_346 qw_17 qw_347 ⟨rfl, by decide +kernel, by decide +kernel, by decide +kernel⟩ ⟨Nat.le_of_ble_eq_true rfl, Nat.le_of_ble_eq_true rfl⟩ hl rfl rfl (Nat.le_of_ble_eq_true rfl) dX3_readWater_42 ⟨Nat.le_of_ble_eq_true rfl, Nat.le_of_ble_eq_true rfl⟩ (fun z56946 F9 H locs hT hz56946 => ?_)
  obtain ⟨fz56946, hz56946⟩ := hz56946
  rw [fz56946] at hT
  refine lv_if_eq (tgt := 60) hx hb dX3_readWater_45 (by decide) (fun c56947 => ?_) (fun c56947 => ?_)
  · have w56948 := cv_eq (rfl : z56946.toInt = z56946.toInt) (by decide : (0 : Int32).toInt = 0) c56947
    exact K60 z56938 z56944 _ _ _ _  hT hfr pf0 pf1 pf2 pf3 (lv_sub hl [2, 1, 0] rfl)
  · have w56949 := cv_ne (rfl : z56946.toInt = z56946.toInt) (by decide : (0 : Int32).toInt = 0) c56947
    refine lv_aload_n hx hb dX3_readWater_48 rfl (lv_at hl 2 rfl) ?_
    refine lv_iconst (v := 3) hx hb dX3_readWater_49 (by decide) ?_
    refine lv_aload_n hx hb dX3_readWater_50 rfl (lv_at hl 2 rfl) ?_
    refine t_get (C := RX3) (T := TX3) (N := 13) X hT m0 g0 rfl rfl 0 (by decide) qw_73 inlX3 rfl dX3_readWater_51 (fun v56950 hv56950 ov56950 => ?_)
    obtain rfl : v56950 = .ref x0 := hv56950.symm.trans pf0
    refine t_get (C := RX8) (T := TX8) (N := 8) X hT mx0 gx0 rfl rfl 5 (by decide) qw_339 inlX8 rfl dX3_readWater_54 (fun v56951 hv56951 ov56951 => ?_)
    obtain ⟨z56952, rfl, rz56952⟩ := okV_i ov56951
    refine t_cVv (n := 2) (C := RX3) (T := TX3) (N := 13) (As := [.int 3, .int z56952]) (rest := []) X hT (kt146_X3_fail l G tag L F hT.2.2.2 p0 3 z56952 m0 g0) m0 g0 rfl rfl qw_287 qw_288 qw_289 qw_28 qw_290 ⟨rfl, by decide +kernel, by decide +kernel, by decide +kernel⟩ ⟨Nat.le_of_ble_eq_true rfl, Nat.le_of_ble_eq_true rfl⟩ hl rfl rfl (Nat.le_of_ble_eq_true rfl) dX3_readWater_57 ⟨Nat.le_of_ble_eq_true rfl, Nat.le_of_ble_eq_true rfl⟩ (fun F H locs hT hz56953 => ?_)
    have yz56953 := hz56953
    have pf0 := (yz56953.1 _ 0 (Or.inr (by decide)) (Or.inr (by decide))).trans pf0
    have pf1 := (yz56953.1 _ 1 (Or.inr (by decide)) (Or.inr (by decide))).trans pf1
    have pf2 := (yz56953.1 _ 2 (Or.inr (by decide)) (Or.inr (by decide))).trans pf2
    have pf3 := (yz56953.1 _ 0 (Or.inr (by decide)) (Or.inr (by decide))).trans pf3
    have hv56935 := (yz56953.1 _ 0 (Or.inr (by decide)) (Or.inr (by decide))).trans hv56935
    have hv56941 := (yz56953.1 _ 1 (Or.inr (by decide)) (Or.inr (by decide))).trans hv56941
    have hv56951 := (yz56953.1 _ 5 (Or.inr (by decide)) (Or.inr (by decide))).trans hv56951
    have hfr : (∀ b j : Nat, (tag b ≠ 24 ∨ j ≠ 2) → (tag b ≠ 24 ∨ j ≠ 3) → (tag b ≠ 24 ∨ j ≠ 4) → (tag b ≠ 24 ∨ j ≠ 5) → (tag b ≠ 24 ∨ j ≠ 6) → (tag b ≠ 24 ∨ j ≠ 7) → (tag b ≠ 25 ∨ j ≠ 3) → (tag b ≠ 25 ∨ j ≠ 4) → (tag b ≠ 25 ∨ j ≠ 7) → fld F b j = fld Fo b j) ∧ EF tag F Fo := ⟨fun b j n24_2 n24_3 n24_4 n24_5 n24_6 n24_7 n25_3 n25_4 n25_7 => (yz56953.1 b j n25_3 n25_4).trans (hfr.1 b j n24_2 n24_3 n24_4 n24_5 n24_6 n24_7 n25_3 n25_4 n25_7), fun b j hb => (yz56953.2 b j hb).trans (hfr.2 b j hb)⟩
    exact K60 z56938 z56944 _ _ _ _  hT hfr pf0 pf1 pf2 pf3 (lv_sub hl [2, 1, 0] rfl)
