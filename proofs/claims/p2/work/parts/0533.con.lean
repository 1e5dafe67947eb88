set_option maxHeartbeats 4000000 in
set_option maxRecDepth 100000 in
theorem kt185_X11_through (l : Launch) (G : KG) (tag : Nat → Nat) (L : List Nat) (Fo : Nat → va_E) (ho : okT G ttC tag L Fo) (p0 : Nat) (p1 : Int32) (p2 : Int32) (m0 : p0 ∈ L) (g0 : tag p0 = 26) : TMi l yX11_through cX11_through 3 (some .int) { frames := 6, cells := 0, slots := 0, locals := 149 } G ttC tag L Fo [.ref p0, .int p1, .int p2] (fun r F1 => ((-2147483648) ≤ r.toInt ∧ r.toInt ≤ 2147483647) ∧ ((∀ b j : Nat, (tag b ≠ 21 ∨ j ≠ 0) → (tag b ≠ 21 ∨ j ≠ 1) → (tag b ≠ 26 ∨ j ≠ 13) → fld F1 b j = fld Fo b j) ∧ EF tag F1 Fo)) := by
  refine t_bodyi (y := yX11_through) (cd := cX11_through) (mL := 3) (rt := (some .int)) (rm := { frames := 6, cells := 0, slots := 0, locals := 149 }) (av := [.ref p0, .int p1, .int p2]) (by decide) (Nat.le_of_ble_eq_true rfl) ho ?_
  intro p e s m args below meth c ls A Q hQ X hT hl
  have hx := X.1.1
  have hb := X.1.2.1
  have hl : lv_has ls 3 [(0, .ref p0), (1, .int p1), (2, .int p2)] := hl
  have rp1 := rg_all p1
  have rp2 := rg_all p2
  obtain ⟨F, hFo⟩ : ∃ F : Nat → va_E, F = Fo := ⟨_, rfl⟩
  rw [← hFo] at hT
  have hfr : (∀ b j : Nat, (tag b ≠ 21 ∨ j ≠ 0) → (tag b ≠ 21 ∨ j ≠ 1) → (tag b ≠ 26 ∨ j ≠ 13) → fld F b j = fld Fo b j) ∧ EF tag F Fo := by
    rw [hFo]
    exact ⟨by intros; rfl, fun _ _ _ => rfl⟩
  refine lv_aload_n hx hb dX11_through_0 rfl (lv_at hl 0 rfl) ?_
  refine lv_iload_n hx hb dX11_through_1 rfl (lv_at hl 1 rfl) ?_
  refine lv_iload_n hx hb dX11_through_2 rfl (lv_at hl 2 rfl) ?_
  refine t_cVi (n := 2) (C := RX11) (T := TX11) (N := 16) (As := [.int p1, .int p2]) (rest := []) X hT (kt62_X11_isRoom l G tag L F hT.2.2.2 p0 p1 p2 m0 g0) m0 g0 rfl rfl qw_827 qw_828 qw_829 qw_2 qw_830 ⟨rfl, by decide +kernel, by decide +kernel, by decide +kernel⟩ ⟨Nat.le_of_ble_eq_true rfl, Nat.le_of_ble_eq_true rfl⟩ hl rfl rfl (Nat.le_of_ble_eq_true rfl) dX11_through_3 ⟨Nat.le_of_ble_eq_true rfl, Nat.le_of_ble_eq_true rfl⟩ (fun z80235 F9 H locs hT hz80235 => ?_)
  obtain ⟨fz80235, hz80235⟩ := hz80235
  rw [fz80235] at hT
  obtain ⟨hz80235, iz80235⟩ := hz80235
  refine lv_if_ne (tgt := 15) hx hb dX11_through_6 (by decide) (fun c80236 => ?_) (fun c80236 => ?_)
  · have w80237 := cv_ne (rfl : z80235.toInt = z80235.toInt) (by decide : (0 : Int32).toInt = 0) c80236
    have w80238 := (fun h => (iz80235 h).1) (by omega)
    have w80239 := (fun h => (iz80235 h).2) (by omega)
    refine lv_aload_n hx hb dX11_through_15 rfl (lv_at hl 0 rfl) ?_
    refine lv_aload_n hx hb dX11_through_16 rfl (lv_at hl 0 rfl) ?_
    refine t_get (C := RX11) (T := TX11) (N := 16) X hT m0 g0 rfl rfl 10 (by decide) qw_37 inlX11 rfl dX11_through_17 (fun v80240 hv80240 ov80240 => ?_)
    obtain ⟨b80241, rfl, mb80241, gb80241⟩ := okV_r ov80240
    have gb80241 : tag b80241 = 21 := tg_of gb80241
    refine lv_aload_n hx hb dX11_through_20 rfl (lv_at hl 0 rfl) ?_
    refine t_get (C := RX11) (T := TX11) (N := 16) X hT m0 g0 rfl rfl 3 (by decide) qw_18 inlX11 rfl dX11_through_21 (fun v80242 hv80242 ov80242 => ?_)
    obtain ⟨b80243, rfl, mb80243, gb80243⟩ := okV_r ov80242
    have gb80243 : tag b80243 = 18 := tg_of gb80243
    refine lv_aload_n hx hb dX11_through_24 rfl (lv_at hl 0 rfl) ?_
    refine t_get (C := RX11) (T := TX11) (N := 16) X hT m0 g0 rfl rfl 5 (by decide) qw_23 inlX11 rfl dX11_through_25 (fun v80244 hv80244 ov80244 => ?_)
    obtain ⟨b80245, rfl, mb80245, gb80245⟩ := okV_r ov80244
    have gb80245 : tag b80245 = 19 := tg_of gb80245
    refine lv_iload_n hx hb dX11_through_28 rfl (lv_at hl 1 rfl) ?_
    refine lv_iload_n hx hb dX11_through_29 rfl (lv_at hl 2 rfl) ?_
    refine t_cVi (n := 4) (C := RX0) (T := TX0) (N := 2) (As := [.ref b80243, .ref b80245, .int p1, .int p2]) (rest := [.ref p0]) X hT (kt41_X0_cheapest l G tag L F hT.2.2.2 b80241 b80243 b80245 p1 p2 mb80241 gb80241 mb80243 gb80243 mb80245 gb80245 (by omega)) mb80241 gb80241 rfl rfl qw_1012 qw_1013 qw_1014 qw_36 qw_1015 ⟨rfl, by decide +kernel, by decide +kernel, by decide +kernel⟩ ⟨Nat.le_of_ble_eq_true rfl, Nat.le_of_ble_eq_true rfl⟩ hl rfl rfl (Nat.le_of_ble_eq_true rfl) dX11_through_30 ⟨Nat.le_of_ble_eq_true rfl, Nat.le_of_ble_eq_true rfl⟩ (fun z80246 F H locs hT hz80246 => ?_)
    obtain ⟨hz80246, yz80246⟩ := hz80246
    have hv80240 := (yz80246.1 _ 10 (Or.inr (by decide)) (Or.inr (by decide))).trans hv80240
    have hv80242 := (yz80246.1 _ 3 (Or.inr (by decide)) (Or.inr (by decide))).trans hv80242
    have hv80244 := (yz80246.1 _ 5 (Or.inr (by decide)) (Or.inr (by decide))).trans hv80244
    have hfr : (∀ b j : Nat, (tag b ≠ 21 ∨ j ≠ 0) → (tag b ≠ 21 ∨ j ≠ 1) → (tag b ≠ 26 ∨ j ≠ 13) → fld F b j = fld Fo b j) ∧ EF tag F Fo := ⟨fun b j n21_0 n21_1 n26_13 => (yz80246.1 b j n21_0 n21_1).trans (hfr.1 b j n21_0 n21_1 n26_13), fun b j hb => (yz80246.2 b j hb).trans (hfr.2 b j hb)⟩
    refine lv_bipush (v := 8) hx hb dX11_through_33 (by decide) ?_
    refine lv_idiv hx hb dX11_through_35 (by decide) ?_
    refine lv_topi (fun z80247 ez80247 => ?_)
    have rz80247 := rg_all z80247
    refine t_cVi (n := 1) (C := RX11) (T := TX11) (N := 16) (As := [.int z80247]) (rest := []) X hT (kt56_X11_answer l G tag L F hT.2.2.2 p0 z80247 m0 g0) m0 g0 rfl rfl qw_463 qw_464 qw_465 qw_2 qw_466 ⟨rfl, by decide +kernel, by decide +kernel, by decide +kernel⟩ ⟨Nat.le_of_ble_eq_true rfl, Nat.le_of_ble_eq_true rfl⟩ hl rfl rfl (Nat.le_of_ble_eq_true rfl) dX11_through_36 ⟨Nat.le_of_ble_eq_true rfl, Nat.le_of_ble_eq_true rfl⟩ (fun z80248 F H locs hT hz80248 => ?_)
    obtain ⟨hz80248, yz80248⟩ := hz80248
    have hv80240 := (yz80248.1 _ 10 (Or.inr (by decide))).trans hv80240
    have hv80242 := (yz80248.1 _ 3 (Or.inr (by decide))).trans hv80242
    have hv80244 := (yz80248.1 _ 5 (Or.inr (by decide))).trans hv80244
    have hfr : (∀ b j : Nat, (tag b ≠ 21 ∨ j ≠ 0) → (tag b ≠ 21 ∨ j ≠ 1) → (tag b ≠ 26 ∨ j ≠ 13) → fld F b j = fld Fo b j) ∧ EF tag F Fo := ⟨fun b j n21_0 n21_1 n26_13 => (yz80248.1 b j n26_13).trans (hfr.1 b j n21_0 n21_1 n26_13), fun b j hb => (yz80248.2 b j hb).trans (hfr.2 b j hb)⟩
    exact t_iret hQ X hT (⟨rg_all _, hfr⟩) (Nat.le_of_ble_eq_true rfl) (Nat.le_of_ble_eq_true rfl) dX11_through_39
  · have w80249 := cv_eq (rfl : z80235.toInt = z80235.toInt) (by decide : (0 : Int32).toInt = 0) c80236
    refine lv_aload_n hx hb dX11_through_9 rfl (lv_at hl 0 rfl) ?_
    refine lv_iconst (v := 1) hx hb dX11_through_10 (by decide) ?_
    refine t_cVi (n := 1) (C := RX11) (T := TX11) (N := 16) (As := [.int 1]) (rest := []) X hT (kt63_X11_refuse l G tag L F hT.2.2.2 p0 1 m0 g0) m0 g0 rfl rfl qw_152 qw_153 qw_154 qw_2 qw_155 ⟨rfl, by decide +kernel, by decide +kernel, by decide +kernel⟩ ⟨Nat.le_of_ble_eq_true rfl, Nat.le_of_ble_eq_true rfl⟩ hl rfl rfl (Nat.le_of_ble_eq_true rfl) dX11_through_11 ⟨Nat.le_of_ble_eq_true rfl, Nat.le_of_ble_eq_true rfl⟩ (fun z80250 F H locs hT hz80250 => ?_)
    obtain ⟨hz80250, yz80250⟩ := hz80250
    have hfr : (∀ b j : Nat, (tag b ≠ 21 ∨ j ≠ 0) → (tag b ≠ 21 ∨ j ≠ 1) → (tag b ≠ 26 ∨ j ≠ 13) → fld F b j = fld Fo b j) ∧ EF tag F Fo := ⟨fun b j n21_0 n21_1 n26_13 => (yz80250.1 b j n26_13).trans (hfr.1 b j n21_0 n21_1 n26_13), fun b j hb => (yz80250.2 b j hb).trans (hfr.2 b j hb)⟩
    exact t_iret hQ X hT (⟨rg_all _, hfr⟩) (Nat.le_of_ble_eq_true rfl) (Nat.le_of_ble_eq_true rfl) dX11_through_14
set_option maxHeartbeats 4000000 in
set_option maxRecDepth 100000 in
theorem kt186_X11_trouble (l : Launch) (G : KG) (tag : Nat → Nat) (L : List Nat) (F : Nat → va_E) (ho : okT G ttC tag L F) (p0 : Nat) (m0 : p0 ∈ L) (g0 : tag p0 = 26) : TMi l yX11_trouble cX11_trouble 1 (some .int) { frames := 0, cells := 0, slots := 0, locals := 0 } G ttC tag L F [.ref p0] (fun r F1 => F1 = F ∧ ((-2147483648) ≤ r.toInt ∧ r.toInt ≤ 2147483647)) := by
  refine t_bodyi (y := yX11_trouble) (cd := cX11_trouble) (mL := 1) (rt := (some .int)) (rm := { frames := 0, cells := 0, slots := 0, locals := 0 }) (av := [.ref p0]) (by decide) (Nat.le_of_ble_eq_true rfl) ho ?_
  intro p e s m args below meth c ls A Q hQ X hT hl
  have hx := X.1.1
  have hb := X.1.2.1
  have hl : lv_has ls 1 [(0, .ref p0)] := hl
  refine lv_aload_n hx hb dX11_trouble_0 rfl (lv_at hl 0 rfl) ?_
  refine t_get (C := RX11) (T := TX11) (N := 16) X hT m0 g0 rfl rfl 13 (by decide) qw_156 inlX11 rfl dX11_trouble_1 (fun v80273 hv80273 ov80273 => ?_)
  obtain ⟨z80274, rfl, rz80274⟩ := okV_i ov80273
  exact t_iret hQ X hT (⟨rfl, rg_all _⟩) (Nat.le_of_ble_eq_true rfl) (Nat.le_of_ble_eq_true rfl) dX11_trouble_4
set_option maxHeartbeats 4000000 in
set_option maxRecDepth 100000 in
theorem kt187_X2_stepBack (l : Launch) (G : KG) (tag : Nat → Nat) (L : List Nat) (Fo : Nat → va_E) (ho : okT G ttC tag L Fo) (p0 : Nat) (p1 : Nat) (m0 : p0 ∈ L) (g0 : tag p0 = 23) (m1 : p1 ∈ L) (g1 : tag p1 = 19) : TMi l yX2_stepBack cX2_stepBack 2 (some .boolean) { frames := 2, cells := 0, slots := 0, locals := 45 } G ttC tag L Fo [.ref p0, .ref p1] (fun r F1 => (0 ≤ r.toInt ∧ r.toInt ≤ 1) ∧ ((∀ b j : Nat, (tag b ≠ 19 ∨ j ≠ 0) → (tag b ≠ 19 ∨ j ≠ 1) → (tag b ≠ 23 ∨ j ≠ 3) → fld F1 b j = fld Fo b j) ∧ EF tag F1 Fo)) := by
  refine t_bodyi (y := yX2_stepBack) (cd := cX2_stepBack) (mL := 2) (rt := (some .boolean)) (rm := { frames := 2, cells := 0, slots := 0, locals := 45 }) (av := [.ref p0, .ref p1]) (by decide) (Nat.le_of_ble_eq_true rfl) ho ?_
  intro p e s m args below meth c ls A Q hQ X hT hl
  have hx := X.1.1
  have hb := X.1.2.1
  have hl : lv_has ls 2 [(0, .ref p0), (1, .ref p1)] := hl
  obtain ⟨F, hFo⟩ : ∃ F : Nat → va_E, F = Fo := ⟨_, rfl⟩
  rw [← hFo] at hT
  have hfr : (∀ b j : Nat, (tag b ≠ 19 ∨ j ≠ 0) → (tag b ≠ 19 ∨ j ≠ 1) → (tag b ≠ 23 ∨ j ≠ 3) → fld F b j = fld Fo b j) ∧ EF tag F Fo := by
    rw [hFo]
    exact ⟨by intros; rfl, fun _ _ _ => rfl⟩
  refine lv_aload_n hx hb dX2_stepBack_0 rfl (lv_at hl 0 rfl) ?_
  refine t_get (C := RX2) (T := TX2) (N := 5) X hT m0 g0 rfl rfl 3 (by decide) qw_461 inlX2 rfl dX2_stepBack_1 (fun v80466 hv80466 ov80466 => ?_)
  obtain ⟨z80467, rfl, rz80467⟩ := okV_i ov80466
  refine lv_if_ne (tgt := 9) hx hb dX2_stepBack_4 (by decide) (fun c80468 => ?_) (fun c80468 => ?_)
  · have w80469 := cv_ne (rfl : z80467.toInt = z80467.toInt) (by decide : (0 : Int32).toInt = 0) c80468
    refine lv_aload_n hx hb dX2_stepBack_9 rfl (lv_at hl 0 rfl) ?_
    refine lv_dup hx hb dX2_stepBack_10 rfl ?_
    refine t_get (C := RX2) (T := TX2) (N := 5) X hT m0 g0 rfl rfl 3 (by decide) qw_461 inlX2 rfl dX2_stepBack_11 (fun v80470 hv80470 ov80470 => ?_)
    obtain rfl : v80470 = .int z80467 := hv80470.symm.trans hv80466
    refine lv_iconst (v := 1) hx hb dX2_stepBack_14 (by decide) ?_
    refine lv_isub hx hb dX2_stepBack_15 ?_
    refine lv_topi (fun z80471 ez80471 => ?_)
    have hz80471 : z80471.toInt = z80467.toInt - 1 := ar_sub ez80471 (rfl : z80467.toInt = z80467.toInt) (by decide : (1 : Int32).toInt = 1) (by omega) (by omega)
    have rz80471 : 0 ≤ z80471.toInt ∧ z80471.toInt ≤ 9 := by omega
    refine t_put (C := RX2) (T := TX2) (N := 5) (v := .int z80471) X hT m0 g0 rfl tyX2 tyX2_ok nmX2 rfl 3 (by decide) qw_461 inlX2 rfl (by first | rfl | decide) (by first | rfl | decide) rfl (⟨_, rfl, (show 0 ≤ (z80471 : Int32).toInt from (by omega)), (show (z80471 : Int32).toInt ≤ 10 from (by omega))⟩) dX2_stepBack_16 (fun F H locs hT v80472 h1v80472 h2v80472 => ?_)
    have hfr : (∀ b j : Nat, (tag b ≠ 19 ∨ j ≠ 0) → (tag b ≠ 19 ∨ j ≠ 1) → (tag b ≠ 23 ∨ j ≠ 3) → fld F b j = fld Fo b j) ∧ EF tag F Fo := ⟨fun b j n19_0 n19_1 n23_3 => (h1v80472 b j (fr_ne g0 n23_3)).trans (hfr.1 b j n19_0 n19_1 n23_3), fun b j hb => (h2v80472 b j).trans (hfr.2 b j hb)⟩
    refine lv_aload_n hx hb dX2_stepBack_19 rfl (lv_at hl 1 rfl) ?_
    refine lv_aload_n hx hb dX2_stepBack_20 rfl (lv_at hl 0 rfl) ?_
    refine t_get (C := RX2) (T := TX2) (N := 5) X hT m0 g0 rfl rfl 0 (by decide) qw_103 inlX2 rfl dX2_stepBack_21 (fun v80473 hv80473 ov80473 => ?_)
    obtain ⟨b80474, rfl, mb80474, gb80474⟩ := okV_r ov80473
    have gb80474 : tag b80474 = 16 := tg_of gb80474
    refine lv_aload_n hx hb dX2_stepBack_24 rfl (lv_at hl 0 rfl) ?_
    refine t_get (C := RX2) (T := TX2) (N := 5) X hT m0 g0 rfl rfl 2 (by decide) qw_1431 inlX2 rfl dX2_stepBack_25 (fun v80475 hv80475 ov80475 => ?_)
    obtain ⟨z80476, rfl, rz80476⟩ := okV_i ov80475
    refine lv_aload_n hx hb dX2_stepBack_28 rfl (lv_at hl 0 rfl) ?_
    refine t_get (C := RX2) (T := TX2) (N := 5) X hT m0 g0 rfl rfl 3 (by decide) qw_461 inlX2 rfl dX2_stepBack_29 (fun v80477 hv80477 ov80477 => ?_)
    obtain rfl : v80477 = .int z80471 := hv80477.symm.trans v80472
    refine lv_iadd hx hb dX2_stepBack_32 ?_
    refine lv_topi (fun z80478 ez80478 => ?_)
    have hz80478 : z80478.toInt = z80476.toInt + z80471.toInt := ar_add ez80478 (rfl : z80476.toInt = z80476.toInt) (rfl : z80471.toInt = z80471.toInt) (by omega) (by omega)
    have rz80478 : 0 ≤ z80478.toInt ∧ z80478.toInt ≤ 18 := by omega
    refine lv_bipush (v := 10) hx hb dX2_stepBack_33 (by decide) ?_
    refine lv_irem hx hb dX2_stepBack_35 (by decide) ?_
    refine lv_topi (fun z80479 ez80479 => ?_)
    have hz80479 : z80479.toInt = z80478.toInt % 10 := ar_rem ez80479 (rfl : z80478.toInt = z80478.toInt) (by decide : (10 : Int32).toInt = 10) (by omega) (by omega)
    have rz80479 : 0 ≤ z80479.toInt ∧ z80479.toInt ≤ 9 := by omega
    refine t_ald X hT mb80474 gb80474 rfl (by omega) dX2_stepBack_36 (fun b80480 mb80480 gb80480 => ?_)
    have gb80480 : tag b80480 = 19 := tg_of gb80480
    refine t_cVv (n := 1) (C := RX7) (T := TX7) (N := 7) (As := [.ref b80480]) (rest := []) X hT (kt49_X7_copyFrom l G tag L F hT.2.2.2 p1 b80480 m1 g1 mb80480 gb80480) m1 g1 rfl rfl qw_1432 qw_450 qw_451 qw_22 qw_452 ⟨rfl, by decide +kernel, by decide +kernel, by decide +kernel⟩ ⟨Nat.le_of_ble_eq_true rfl, Nat.le_of_ble_eq_true rfl⟩ hl rfl rfl (Nat.le_of_ble_eq_true rfl) dX2_stepBack_37 ⟨Nat.le_of_ble_eq_true rfl, Nat.le_of_ble_eq_true rfl⟩ (fun F H locs hT hz80481 => ?_)
    have yz80481 := hz80481
    have v80472 := (yz80481.1 _ 3 (Or.inr (by decide)) (Or.inr (by decide))).trans v80472
    have hv80473 := (yz80481.1 _ 0 (Or.inl (by rw [g0]; decide)) (Or.inr (by decide))).trans hv80473
    have hv80475 := (yz80481.1 _ 2 (Or.inr (by decide)) (Or.inr (by decide))).trans hv80475
    have hfr : (∀ b j : Nat, (tag b ≠ 19 ∨ j ≠ 0) → (tag b ≠ 19 ∨ j ≠ 1) → (tag b ≠ 23 ∨ j ≠ 3) → fld F b j = fld Fo b j) ∧ EF tag F Fo := ⟨fun b j n19_0 n19_1 n23_3 => (yz80481.1 b j n19_0 n19_1).trans (hfr.1 b j n19_0 n19_1 n23_3), fun b j hb => (yz80481.2 b j hb).trans (hfr.2 b j hb)⟩
    refine lv_iconst (v := 1) hx hb dX2_stepBack_40 (by decide) ?_
    exact t_zret hQ X hT (by decide) (⟨(by decide), hfr⟩) (Nat.le_of_ble_eq_true rfl) (Nat.le_of_ble_eq_true rfl) dX2_stepBack_41
  · have w80482 := cv_eq (rfl : z80467.toInt = z80467.toInt) (by decide : (0 : Int32).toInt = 0) c80468
    refine lv_iconst (v := 0) hx hb dX2_stepBack_7 (by decide) ?_
    exact t_zret hQ X hT (by decide) (⟨(by decide), hfr⟩) (Nat.le_of_ble_eq_true rfl) (Nat.le_of_ble_eq_true rfl) dX2_stepBack_8
set_option maxHeartbeats 4000000 in
set_option maxRecDepth 100000 in
theorem kt188_X11_undo (l : Launch) (G : KG) (tag : Nat → Nat) (L : List Nat) (Fo : Nat → va_E) (ho : okT G ttC tag L Fo) (p0 : Nat) (m0 : p0 ∈ L) (g0 : tag p0 = 26) : TMi l yX11_undo cX11_undo 1 (some .boolean) { frames := 3, cells := 0, slots := 0, locals := 66 } G ttC tag L Fo [.ref p0] (fun r F1 => (0 ≤ r.toInt ∧ r.toInt ≤ 1) ∧ ((∀ b j : Nat, (tag b ≠ 19 ∨ j ≠ 0) → (tag b ≠ 19 ∨ j ≠ 1) → (tag b ≠ 23 ∨ j ≠ 3) → (tag b ≠ 26 ∨ j ≠ 13) → fld F1 b j = fld Fo b j) ∧ EF tag F1 Fo)) := by
  refine t_bodyi (y := yX11_undo) (cd := cX11_undo) (mL := 1) (rt := (some .boolean)) (rm := { frames := 3, cells := 0, slots := 0, locals := 66 }) (av := [.ref p0]) (by decide) (Nat.le_of_ble_eq_true rfl) ho ?_
  intro p e s m args below meth c ls A Q hQ X hT hl
  have hx := X.1.1
  have hb := X.1.2.1
  have hl : lv_has ls 1 [(0, .ref p0)] := hl
  obtain ⟨F, hFo⟩ : ∃ F : Nat → va_E, F = Fo := ⟨_, rfl⟩
  rw [← hFo] at hT
  have hfr : (∀ b j : Nat, (tag b ≠ 19 ∨ j ≠ 0) → (tag b ≠ 19 ∨ j ≠ 1) → (tag b ≠ 23 ∨ j ≠ 3) → (tag b ≠ 26 ∨ j ≠ 13) → fld F b j = fld Fo b j) ∧ EF tag F Fo := by
    rw [hFo]
    exact ⟨by intros; rfl, fun _ _ _ => rfl⟩
  refine lv_aload_n hx hb dX11_undo_0 rfl (lv_at hl 0 rfl) ?_
  refine t_get (C := RX11) (T := TX11) (N := 16) X hT m0 g0 rfl rfl 12 (by decide) qw_45 inlX11 rfl dX11_undo_1 (fun v80589 hv80589 ov80589 => ?_)
  obtain ⟨b80590, rfl, mb80590, gb80590⟩ := okV_r ov80589
  have gb80590 : tag b80590 = 23 := tg_of gb80590
  refine lv_aload_n hx hb dX11_undo_4 rfl (lv_at hl 0 rfl) ?_
  refine t_get (C := RX11) (T := TX11) (N := 16) X hT m0 g0 rfl rfl 5 (by decide) qw_23 inlX11 rfl dX11_undo_5 (fun v80591 hv80591 ov80591 => ?_)
  obtain ⟨b80592, rfl, mb80592, gb80592⟩ := okV_r ov80591
  have gb80592 : tag b80592 = 19 := tg_of gb80592
  refine t_cVi (n := 1) (C := RX2) (T := TX2) (N := 5) (As := [.ref b80592]) (rest := []) X hT (kt187_X2_stepBack l G tag L F hT.2.2.2 b80590 b80592 mb80590 gb80590 mb80592 gb80592) mb80590 gb80590 rfl rfl qw_1521 qw_1522 qw_1523 qw_44 qw_1524 ⟨rfl, by decide +kernel, by decide +kernel, by decide +kernel⟩ ⟨Nat.le_of_ble_eq_true rfl, Nat.le_of_ble_eq_true rfl⟩ hl rfl rfl (Nat.le_of_ble_eq_true rfl) dX11_undo_8 ⟨Nat.le_of_ble_eq_true rfl, Nat.le_of_ble_eq_true rfl⟩ (fun z80593 F H locs hT hz80593 => ?_)
  obtain ⟨hz80593, yz80593⟩ := hz80593
  have hv80589 := (yz80593.1 _ 12 (Or.inr (by decide)) (Or.inr (by decide)) (Or.inr (by decide))).trans hv80589
  have hv80591 := (yz80593.1 _ 5 (Or.inr (by decide)) (Or.inr (by decide)) (Or.inr (by decide))).trans hv80591
  have hfr : (∀ b j : Nat, (tag b ≠ 19 ∨ j ≠ 0) → (tag b ≠ 19 ∨ j ≠ 1) → (tag b ≠ 23 ∨ j ≠ 3) → (tag b ≠ 26 ∨ j ≠ 13) → fld F b j = fld Fo b j) ∧ EF tag F Fo := ⟨fun b j n19_0 n19_1 n23_3 n26_13 => (yz80593.1 b j n19_0 n19_1 n23_3).trans (hfr.1 b j n19_0 n19_1 n23_3 n26_13), fun b j hb => (yz80593.2 b j hb).trans (hfr.2 b j hb)⟩
  refine lv_if_eq (tgt := 21) hx hb dX11_undo_11 (by decide) (fun c80594 => ?_) (fun c80594 => ?_)
  · have w80595 := cv_eq (rfl : z80593.toInt = z80593.toInt) (by decide : (0 : Int32).toInt = 0) c80594
    refine lv_aload_n hx hb dX11_undo_21 rfl (lv_at hl 0 rfl) ?_
    refine lv_bipush (v := 6) hx hb dX11_undo_22 (by decide) ?_
    refine t_cVi (n := 1) (C := RX11) (T := TX11) (N := 16) (As := [.int 6]) (rest := []) X hT (kt58_X11_no l G tag L F hT.2.2.2 p0 6 m0 g0) m0 g0 rfl rfl qw_1454 qw_1455 qw_1456 qw_2 qw_1457 ⟨rfl, by decide +kernel, by decide +kernel, by decide +kernel⟩ ⟨Nat.le_of_ble_eq_true rfl, Nat.le_of_ble_eq_true rfl⟩ hl rfl rfl (Nat.le_of_ble_eq_true rfl) dX11_undo_24 ⟨Nat.le_of_ble_eq_true rfl, Nat.le_of_ble_eq_true rfl⟩ (fun z80596 F H locs hT hz80596 => ?_)
    obtain ⟨hz80596, yz80596⟩ := hz80596
    have hv80589 := (yz80596.1 _ 12 (Or.inr (by decide))).trans hv80589
    have hv80591 := (yz80596.1 _ 5 (Or.inr (by decide))).trans hv80591
    have hfr : (∀ b j : Nat, (tag b ≠ 19 ∨ j ≠ 0) → (tag b ≠ 19 ∨ j ≠ 1) → (tag b ≠ 23 ∨ j ≠ 3) → (tag b ≠ 26 ∨ j ≠ 13) → fld F b j = fld Fo b j) ∧ EF tag F Fo := ⟨fun b j n19_0 n19_1 n23_3 n26_13 => (yz80596.1 b j n26_13).trans (hfr.1 b j n19_0 n19_1 n23_3 n26_13), fun b j hb => (yz80596.2 b j hb).trans (hfr.2 b j hb)⟩
    exact t_zret hQ X hT (nar_z (by omega)) (⟨(by omega), hfr⟩) (Nat.le_of_ble_eq_true rfl) (Nat.le_of_ble_eq_true rfl) dX11_undo_27
  · have w80597 := cv_ne (rfl : z80593.toInt = z80593.toInt) (by decide : (0 : Int32).toInt = 0) c80594
    refine lv_aload_n hx hb dX11_undo_14 rfl (lv_at hl 0 rfl) ?_
    refine t_cVi (n := 0) (C := RX11) (T := TX11) (N := 16) (As := []) (rest := []) X hT (kt59_X11_yes l G tag L F hT.2.2.2 p0 m0 g0) m0 g0 rfl rfl qw_1460 qw_1461 qw_1462 qw_2 qw_1463 ⟨rfl, by decide +kernel, by decide +kernel, by decide +kernel⟩ ⟨Nat.le_of_ble_eq_true rfl, Nat.le_of_ble_eq_true rfl⟩ hl rfl rfl (Nat.le_of_ble_eq_true rfl) dX11_undo_15 ⟨Nat.le_of_ble_eq_true rfl, Nat.le_of_ble_eq_true rfl⟩ (fun z80598 F H locs hT hz80598 => ?_)
    obtain ⟨hz80598, yz80598⟩ := hz80598
    have hv80589 := (yz80598.1 _ 12 (Or.inr (by decide))).trans hv80589
    have hv80591 := (yz80598.1 _ 5 (Or.inr (by decide))).trans hv80591
    have hfr : (∀ b j : Nat, (tag b ≠ 19 ∨ j ≠ 0) → (tag b ≠ 19 ∨ j ≠ 1) → (tag b ≠ 23 ∨ j ≠ 3) → (tag b ≠ 26 ∨ j ≠ 13) → fld F b j = fld Fo b j) ∧ EF tag F Fo := ⟨fun b j n19_0 n19_1 n23_3 n26_13 => (yz80598.1 b j n26_13).trans (hfr.1 b j n19_0 n19_1 n23_3 n26_13), fun b j hb => (yz80598.2 b j hb).trans (hfr.2 b j hb)⟩
    refine lv_goto (tgt := 27) hx hb dX11_undo_18 (by decide) ?_
    exact t_zret hQ X hT (nar_z (by omega)) (⟨(by omega), hfr⟩) (Nat.le_of_ble_eq_true rfl) (Nat.le_of_ble_eq_true rfl) dX11_undo_27
set_option maxHeartbeats 4000000 in
set_option maxRecDepth 100000 in
theorem kt189_X11_warm (l : Launch) (G : KG) (tag : Nat → Nat) (L : List Nat) (Fo : Nat → va_E) (ho : okT G ttC tag L Fo) (p0 : Nat) (p1 : Int32) (p2 : Int32) (m0 : p0 ∈ L) (g0 : tag p0 = 26) : TMi l yX11_warm cX11_warm 3 (some .int) { frames := 3, cells := 0, slots := 0, locals := 70 } G ttC tag L Fo [.ref p0, .int p1, .int p2] (fun r F1 => ((-2147483648) ≤ r.toInt ∧ r.toInt ≤ 2147483647) ∧ ((∀ b j : Nat, (tag b ≠ 26 ∨ j ≠ 13) → fld F1 b j = fld Fo b j) ∧ EF tag F1 Fo)) := by
  refine t_bodyi (y := yX11_warm) (cd := cX11_warm) (mL := 3) (rt := (some .int)) (rm := { frames := 3, cells := 0, slots := 0, locals := 70 }) (av := [.ref p0, .int p1, .int p2]) (by decide) (Nat.le_of_ble_eq_true rfl) ho ?_
  intro p e s m args below meth c ls A Q hQ X hT hl
  have hx := X.1.1
  have hb := X.1.2.1
  have hl : lv_has ls 3 [(0, .ref p0), (1, .int p1), (2, .int p2)] := hl
  have rp1 := rg_all p1
  have rp2 := rg_all p2
  obtain ⟨F, hFo⟩ : ∃ F : Nat → va_E, F = Fo := ⟨_, rfl⟩
  rw [← hFo] at hT
  have hfr : (∀ b j : Nat, (tag b ≠ 26 ∨ j ≠ 13) → fld F b j = fld Fo b j) ∧ EF tag F Fo := by
    rw [hFo]
    exact ⟨by intros; rfl, fun _ _ _ => rfl⟩
  refine lv_aload_n hx hb dX11_warm_0 rfl (lv_at hl 0 rfl) ?_
  refine lv_iload_n hx hb dX11_warm_1 rfl (lv_at hl 1 rfl) ?_
  refine lv_iload_n hx hb dX11_warm_2 rfl (lv_at hl 2 rfl) ?_
  refine t_cVi (n := 2) (C := RX11) (T := TX11) (N := 16) (As := [.int p1, .int p2]) (rest := []) X hT (kt62_X11_isRoom l G tag L F hT.2.2.2 p0 p1 p2 m0 g0) m0 g0 rfl rfl qw_827 qw_828 qw_829 qw_2 qw_830 ⟨rfl, by decide +kernel, by decide +kernel, by decide +kernel⟩ ⟨Nat.le_of_ble_eq_true rfl, Nat.le_of_ble_eq_true rfl⟩ hl rfl rfl (Nat.le_of_ble_eq_true rfl) dX11_warm_3 ⟨Nat.le_of_ble_eq_true rfl, Nat.le_of_ble_eq_true rfl⟩ (fun z80698 F9 H locs hT hz80698 => ?_)
  obtain ⟨fz80698, hz80698⟩ := hz80698
  rw [fz80698] at hT
  obtain ⟨hz80698, iz80698⟩ := hz80698
  refine lv_if_ne (tgt := 15) hx hb dX11_warm_6 (by decide) (fun c80699 => ?_) (fun c80699 => ?_)
  · have w80700 := cv_ne (rfl : z80698.toInt = z80698.toInt) (by decide : (0 : Int32).toInt = 0) c80699
    have w80701 := (fun h => (iz80698 h).1) (by omega)
    have w80702 := (fun h => (iz80698 h).2) (by omega)
    refine lv_aload_n hx hb dX11_warm_15 rfl (lv_at hl 0 rfl) ?_
    refine lv_aload_n hx hb dX11_warm_16 rfl (lv_at hl 0 rfl) ?_
    refine lv_iload_n hx hb dX11_warm_17 rfl (lv_at hl 1 rfl) ?_
    refine lv_iload_n hx hb dX11_warm_18 rfl (lv_at hl 2 rfl) ?_
    refine t_cVi (n := 2) (C := RX11) (T := TX11) (N := 16) (As := [.int p1, .int p2]) (rest := [.ref p0]) X hT (kt87_X11_warmth l G tag L F hT.2.2.2 p0 p1 p2 m0 g0 (by omega)) m0 g0 rfl rfl qw_844 qw_845 qw_846 qw_2 qw_847 ⟨rfl, by decide +kernel, by decide +kernel, by decide +kernel⟩ ⟨Nat.le_of_ble_eq_true rfl, Nat.le_of_ble_eq_true rfl⟩ hl rfl rfl (Nat.le_of_ble_eq_true rfl) dX11_warm_19 ⟨Nat.le_of_ble_eq_true rfl, Nat.le_of_ble_eq_true rfl⟩ (fun z80703 F9 H locs hT hz80703 => ?_)
    obtain ⟨fz80703, hz80703⟩ := hz80703
    rw [fz80703] at hT
    refine t_cVi (n := 1) (C := RX11) (T := TX11) (N := 16) (As := [.int z80703]) (rest := []) X hT (kt56_X11_answer l G tag L F hT.2.2.2 p0 z80703 m0 g0) m0 g0 rfl rfl qw_463 qw_464 qw_465 qw_2 qw_466 ⟨rfl, by decide +kernel, by decide +kernel, by decide +kernel⟩ ⟨Nat.le_of_ble_eq_true rfl, Nat.le_of_ble_eq_true rfl⟩ hl rfl rfl (Nat.le_of_ble_eq_true rfl) dX11_warm_22 ⟨Nat.le_of_ble_eq_true rfl, Nat.le_of_ble_eq_true rfl⟩ (fun z80704 F H locs hT hz80704 => ?_)
    obtain ⟨hz80704, yz80704⟩ := hz80704
    have hfr : (∀ b j : Nat, (tag b ≠ 26 ∨ j ≠ 13) → fld F b j = fld Fo b j) ∧ EF tag F Fo := ⟨fun b j n26_13 => (yz80704.1 b j n26_13).trans (hfr.1 b j n26_13), fun b j hb => (yz80704.2 b j hb).trans (hfr.2 b j hb)⟩
    exact t_iret hQ X hT (⟨rg_all _, hfr⟩) (Nat.le_of_ble_eq_true rfl) (Nat.le_of_ble_eq_true rfl) dX11_warm_25
  · have w80705 := cv_eq (rfl : z80698.toInt = z80698.toInt) (by decide : (0 : Int32).toInt = 0) c80699
    refine lv_aload_n hx hb dX11_warm_9 rfl (lv_at hl 0 rfl) ?_
    refine lv_iconst (v := 1) hx hb dX11_warm_10 (by decide) ?_
    refine t_cVi (n := 1) (C := RX11) (T := TX11) (N := 16) (As := [.int 1]) (rest := []) X hT (kt63_X11_refuse l G tag L F hT.2.2.2 p0 1 m0 g0) m0 g0 rfl rfl qw_152 qw_153 qw_154 qw_2 qw_155 ⟨rfl, by decide +kernel, by decide +kernel, by decide +kernel⟩ ⟨Nat.le_of_ble_eq_true rfl, Nat.le_of_ble_eq_true rfl⟩ hl rfl rfl (Nat.le_of_ble_eq_true rfl) dX11_warm_11 ⟨Nat.le_of_ble_eq_true rfl, Nat.le_of_ble_eq_true rfl⟩ (fun z80706 F H locs hT hz80706 => ?_)
    obtain ⟨hz80706, yz80706⟩ := hz80706
    have hfr : (∀ b j : Nat, (tag b ≠ 26 ∨ j ≠ 13) → fld F b j = fld Fo b j) ∧ EF tag F Fo := ⟨fun b j n26_13 => (yz80706.1 b j n26_13).trans (hfr.1 b j n26_13), fun b j hb => (yz80706.2 b j hb).trans (hfr.2 b j hb)⟩
    exact t_iret hQ X hT (⟨rg_all _, hfr⟩) (Nat.le_of_ble_eq_true rfl) (Nat.le_of_ble_eq_true rfl) dX11_warm_14
set_option maxHeartbeats 4000000 in
set_option maxRecDepth 100000 in
theorem kt190_X11_way (l : Launch) (G : KG) (tag : Nat → Nat) (L : List Nat) (Fo : Nat → va_E) (ho : okT G ttC tag L Fo) (p0 : Nat) (p1 : Int32) (p2 : Int32) (m0 : p0 ∈ L) (g0 : tag p0 = 26) : TMi l yX11_way cX11_way 3 (some .int) { frames := 4, cells := 0, slots := 0, locals := 93 } G ttC tag L Fo [.ref p0, .int p1, .int p2] (fun r F1 => ((-2147483648) ≤ r.toInt ∧ r.toInt ≤ 2147483647) ∧ ((∀ b j : Nat, (tag b ≠ 26 ∨ j ≠ 13) → fld F1 b j = fld Fo b j) ∧ EF tag F1 Fo)) := by
  refine t_bodyi (y := yX11_way) (cd := cX11_way) (mL := 3) (rt := (some .int)) (rm := { frames := 4, cells := 0, slots := 0, locals := 93 }) (av := [.ref p0, .int p1, .int p2]) (by decide) (Nat.le_of_ble_eq_true rfl) ho ?_
  intro p e s m args below meth c ls A Q hQ X hT hl
  have hx := X.1.1
  have hb := X.1.2.1
  have hl : lv_has ls 3 [(0, .ref p0), (1, .int p1), (2, .int p2)] := hl
  have rp1 := rg_all p1
  have rp2 := rg_all p2
  obtain ⟨F, hFo⟩ : ∃ F : Nat → va_E, F = Fo := ⟨_, rfl⟩
  rw [← hFo] at hT
  have hfr : (∀ b j : Nat, (tag b ≠ 26 ∨ j ≠ 13) → fld F b j = fld Fo b j) ∧ EF tag F Fo := by
    rw [hFo]
    exact ⟨by intros; rfl, fun _ _ _ => rfl⟩
  refine lv_aload_n hx hb dX11_way_0 rfl (lv_at hl 0 rfl) ?_
  refine lv_iload_n hx hb dX11_way_1 rfl (lv_at hl 1 rfl) ?_
  refine lv_iload_n hx hb dX11_way_2 rfl (lv_at hl 2 rfl) ?_
  refine t_cVi (n := 2) (C := RX11) (T := TX11) (N := 16) (As := [.int p1, .int p2]) (rest := []) X hT (kt62_X11_isRoom l G tag L F hT.2.2.2 p0 p1 p2 m0 g0) m0 g0 rfl rfl qw_827 qw_828 qw_829 qw_2 qw_830 ⟨rfl, by decide +kernel, by decide +kernel, by decide +kernel⟩ ⟨Nat.le_of_ble_eq_true rfl, Nat.le_of_ble_eq_true rfl⟩ hl rfl rfl (Nat.le_of_ble_eq_true rfl) dX11_way_3 ⟨Nat.le_of_ble_eq_true rfl, Nat.le_of_ble_eq_true rfl⟩ (fun z80828 F9 H locs hT hz80828 => ?_)
  obtain ⟨fz80828, hz80828⟩ := hz80828
  rw [fz80828] at hT
  obtain ⟨hz80828, iz80828⟩ := hz80828
  refine lv_if_ne (tgt := 15) hx hb dX11_way_6 (by decide) (fun c80829 => ?_) (fun c80829 => ?_)
  · have w80830 := cv_ne (rfl : z80828.toInt = z80828.toInt) (by decide : (0 : Int32).toInt = 0) c80829
    have w80831 := (fun h => (iz80828 h).1) (by omega)
    have w80832 := (fun h => (iz80828 h).2) (by omega)
    refine lv_aload_n hx hb dX11_way_15 rfl (lv_at hl 0 rfl) ?_
    refine lv_aload_n hx hb dX11_way_16 rfl (lv_at hl 0 rfl) ?_
    refine t_get (C := RX11) (T := TX11) (N := 16) X hT m0 g0 rfl rfl 5 (by decide) qw_23 inlX11 rfl dX11_way_17 (fun v80833 hv80833 ov80833 => ?_)
    obtain ⟨b80834, rfl, mb80834, gb80834⟩ := okV_r ov80833
    have gb80834 : tag b80834 = 19 := tg_of gb80834
    refine lv_iload_n hx hb dX11_way_20 rfl (lv_at hl 1 rfl) ?_
    refine lv_iload_n hx hb dX11_way_21 rfl (lv_at hl 2 rfl) ?_
    refine t_cVi (n := 2) (C := RX7) (T := TX7) (N := 7) (As := [.int p1, .int p2]) (rest := [.ref p0]) X hT (kt26_X7_wayTo l G tag L F hT.2.2.2 b80834 p1 p2 mb80834 gb80834 (by omega)) mb80834 gb80834 rfl rfl qw_979 qw_980 qw_981 qw_22 qw_982 ⟨rfl, by decide +kernel, by decide +kernel, by decide +kernel⟩ ⟨Nat.le_of_ble_eq_true rfl, Nat.le_of_ble_eq_true rfl⟩ hl rfl rfl (Nat.le_of_ble_eq_true rfl) dX11_way_22 ⟨Nat.le_of_ble_eq_true rfl, Nat.le_of_ble_eq_true rfl⟩ (fun z80835 F9 H locs hT hz80835 => ?_)
    obtain ⟨fz80835, hz80835⟩ := hz80835
    rw [fz80835] at hT
    refine t_cVi (n := 1) (C := RX11) (T := TX11) (N := 16) (As := [.int z80835]) (rest := []) X hT (kt56_X11_answer l G tag L F hT.2.2.2 p0 z80835 m0 g0) m0 g0 rfl rfl qw_463 qw_464 qw_465 qw_2 qw_466 ⟨rfl, by decide +kernel, by decide +kernel, by decide +kernel⟩ ⟨Nat.le_of_ble_eq_true rfl, Nat.le_of_ble_eq_true rfl⟩ hl rfl rfl (Nat.le_of_ble_eq_true rfl) dX11_way_25 ⟨Nat.le_of_ble_eq_true rfl, Nat.le_of_ble_eq_true rfl⟩ (fun z80836 F H locs hT hz80836 => ?_)
    obtain ⟨hz80836, yz80836⟩ := hz80836
    have hv80833 := (yz80836.1 _ 5 (Or.inr (by decide))).trans hv80833
    have hfr : (∀ b j : Nat, (tag b ≠ 26 ∨ j ≠ 13) → fld F b j = fld Fo b j) ∧ EF tag F Fo := ⟨fun b j n26_13 => (yz80836.1 b j n26_13).trans (hfr.1 b j n26_13), fun b j hb => (yz80836.2 b j hb).trans (hfr.2 b j hb)⟩
    exact t_iret hQ X hT (⟨rg_all _, hfr⟩) (Nat.le_of_ble_eq_true rfl) (Nat.le_of_ble_eq_true rfl) dX11_way_28
  · have w80837 := cv_eq (rfl : z80828.toInt = z80828.toInt) (by decide : (0 : Int32).toInt = 0) c80829
    refine lv_aload_n hx hb dX11_way_9 rfl (lv_at hl 0 rfl) ?_
    refine lv_iconst (v := 1) hx hb dX11_way_10 (by decide) ?_
    refine t_cVi (n := 1) (C := RX11) (T := TX11) (N := 16) (As := [.int 1]) (rest := []) X hT (kt63_X11_refuse l G tag L F hT.2.2.2 p0 1 m0 g0) m0 g0 rfl rfl qw_152 qw_153 qw_154 qw_2 qw_155 ⟨rfl, by decide +kernel, by decide +kernel, by decide +kernel⟩ ⟨Nat.le_of_ble_eq_true rfl, Nat.le_of_ble_eq_true rfl⟩ hl rfl rfl (Nat.le_of_ble_eq_true rfl) dX11_way_11 ⟨Nat.le_of_ble_eq_true rfl, Nat.le_of_ble_eq_true rfl⟩ (fun z80838 F H locs hT hz80838 => ?_)
    obtain ⟨hz80838, yz80838⟩ := hz80838
    have hfr : (∀ b j : Nat, (tag b ≠ 26 ∨ j ≠ 13) → fld F b j = fld Fo b j) ∧ EF tag F Fo := ⟨fun b j n26_13 => (yz80838.1 b j n26_13).trans (hfr.1 b j n26_13), fun b j hb => (yz80838.2 b j hb).trans (hfr.2 b j hb)⟩
    exact t_iret hQ X hT (⟨rg_all _, hfr⟩) (Nat.le_of_ble_eq_true rfl) (Nat.le_of_ble_eq_true rfl) dX11_way_14
set_option maxHeartbeats 4000000 in
set_option maxRecDepth 100000 in
theorem kt191_X11_where (l : Launch) (G : KG) (tag : Nat → Nat) (L : List Nat) (F : Nat → va_E) (ho : okT G ttC tag L F) (p0 : Nat) (m0 : p0 ∈ L) (g0 : tag p0 = 26) : TMi l yX11_where cX11_where 1 (some .int) { frames := 0, cells := 0, slots := 0, locals := 0 } G ttC tag L F [.ref p0] (fun r F1 => F1 = F ∧ ((-2147483648) ≤ r.toInt ∧ r.toInt ≤ 2147483647)) := by
  refine t_bodyi (y := yX11_where) (cd := cX11_where) (mL := 1) (rt := (some .int)) (rm := { frames := 0, cells := 0, slots := 0, locals := 0 }) (av := [.ref p0]) (by decide) (Nat.le_of_ble_eq_true rfl) ho ?_
  intro p e s m args below meth c ls A Q hQ X hT hl
  have hx := X.1.1
  have hb := X.1.2.1
  have hl : lv_has ls 1 [(0, .ref p0)] := hl
  refine lv_aload_n hx hb dX11_where_0 rfl (lv_at hl 0 rfl) ?_
  refine t_get (C := RX11) (T := TX11) (N := 16) X hT m0 g0 rfl rfl 13 (by decide) qw_156 inlX11 rfl dX11_where_1 (fun v80916 hv80916 ov80916 => ?_)
  obtain ⟨z80917, rfl, rz80917⟩ := okV_i ov80916
  refine lv_iconst (v := 4) hx hb dX11_where_4 (by decide) ?_
  refine lv_icmp_ne (tgt := 15) hx hb dX11_where_5 (by decide) (fun c80918 => ?_) (fun c80918 => ?_)
  · have w80919 := cv_ne (rfl : z80917.toInt = z80917.toInt) (by decide : (4 : Int32).toInt = 4) c80918
    refine lv_iconst (v := (-1)) hx hb dX11_where_15 (by decide) ?_
    exact t_iret hQ X hT (⟨rfl, rg_all _⟩) (Nat.le_of_ble_eq_true rfl) (Nat.le_of_ble_eq_true rfl) dX11_where_16
  · have w80920 := cv_eq (rfl : z80917.toInt = z80917.toInt) (by decide : (4 : Int32).toInt = 4) c80918
    refine lv_aload_n hx hb dX11_where_8 rfl (lv_at hl 0 rfl) ?_
    refine t_get (C := RX11) (T := TX11) (N := 16) X hT m0 g0 rfl rfl 15 (by decide) qw_149 inlX11 rfl dX11_where_9 (fun v80921 hv80921 ov80921 => ?_)
    obtain ⟨z80922, rfl, rz80922⟩ := okV_i ov80921
    refine lv_goto (tgt := 16) hx hb dX11_where_12 (by decide) ?_
    exact t_iret hQ X hT (⟨rfl, rg_all _⟩) (Nat.le_of_ble_eq_true rfl) (Nat.le_of_ble_eq_true rfl) dX11_where_16
set_option maxHeartbeats 4000000 in
set_option maxRecDepth 100000 in
theorem kt192_X11_whose (l : Launch) (G : KG) (tag : Nat → Nat) (L : List Nat) (Fo : Nat → va_E) (ho : okT G ttC tag L Fo) (p0 : Nat) (p1 : Int32) (p2 : Int32) (m0 : p0 ∈ L) (g0 : tag p0 = 26) : TMi l yX11_whose cX11_whose 3 (some .int) { frames := 2, cells := 0, slots := 0, locals := 50 } G ttC tag L Fo [.ref p0, .int p1, .int p2] (fun r F1 => ((-2147483648) ≤ r.toInt ∧ r.toInt ≤ 2147483647) ∧ ((∀ b j : Nat, (tag b ≠ 26 ∨ j ≠ 13) → fld F1 b j = fld Fo b j) ∧ EF tag F1 Fo)) := by
  refine t_bodyi (y := yX11_whose) (cd := cX11_whose) (mL := 3) (rt := (some .int)) (rm := { frames := 2, cells := 0, slots := 0, locals := 50 }) (av := [.ref p0, .int p1, .int p2]) (by decide) (Nat.le_of_ble_eq_true rfl) ho ?_
  intro p e s m args below meth c ls A Q hQ X hT hl
  have hx := X.1.1
  have hb := X.1.2.1
  have hl : lv_has ls 3 [(0, .ref p0), (1, .int p1), (2, .int p2)] := hl
  have rp1 := rg_all p1
  have rp2 := rg_all p2
  obtain ⟨F, hFo⟩ : ∃ F : Nat → va_E, F = Fo := ⟨_, rfl⟩
  rw [← hFo] at hT
  have hfr : (∀ b j : Nat, (tag b ≠ 26 ∨ j ≠ 13) → fld F b j = fld Fo b j) ∧ EF tag F Fo := by
    rw [hFo]
    exact ⟨by intros; rfl, fun _ _ _ => rfl⟩
  have K19 : ∀ (z81121 : Int32) (F : Nat → va_E) (H : Heap) (locs : List Loc) (ls : Array Slot), (0 ≤ z81121.toInt ∧ z81121.toInt ≤ 1) → TH G ttC A s tag L F H locs → ((∀ b j : Nat, (tag b ≠ 26 ∨ j ≠ 13) → fld F b j = fld Fo b j) ∧ EF tag F Fo) → fld F p0 2 = .int z81121 → lv_has ls 3 [(0, .ref p0), (1, .int p1), (2, .int p2)] → W p l e { frames := 2, cells := 0, slots := 0, locals := 50 } s m args below meth c H locs 0 0 Q (F0 m 19 ls []) := by
    intro z81121 F H locs ls rz81121 hT hfr qz81121 hl
    refine lv_aload_n hx hb dX11_whose_19 rfl (lv_at hl 0 rfl) ?_
    refine lv_iconst (v := 1) hx hb dX11_whose_20 (by decide) ?_
    refine t_cVi (n := 1) (C := RX11) (T := TX11) (N := 16) (As := [.int 1]) (rest := []) X hT (kt63_X11_refuse l G tag L F hT.2.2.2 p0 1 m0 g0) m0 g0 rfl rfl qw_152 qw_153 qw_154 qw_2 qw_155 ⟨rfl, by decide +kernel, by decide +kernel, by decide +kernel⟩ ⟨Nat.le_of_ble_eq_true rfl, Nat.le_of_ble_eq_true rfl⟩ hl rfl rfl (Nat.le_of_ble_eq_true rfl) dX11_whose_21 ⟨Nat.le_of_ble_eq_true rfl, Nat.le_of_ble_eq_true rfl⟩ (fun z81122 F H locs hT hz81122 => ?_)
    obtain ⟨hz81122, yz81122⟩ := hz81122
    have qz81121 := (yz81122.1 _ 2 (Or.inr (by decide))).trans qz81121
    have hfr : (∀ b j : Nat, (tag b ≠ 26 ∨ j ≠ 13) → fld F b j = fld Fo b j) ∧ EF tag F Fo := ⟨fun b j n26_13 => (yz81122.1 b j n26_13).trans (hfr.1 b j n26_13), fun b j hb => (yz81122.2 b j hb).trans (hfr.2 b j hb)⟩
    exact t_iret hQ X hT (⟨rg_all _, hfr⟩) (Nat.le_of_ble_eq_true rfl) (Nat.le_of_ble_eq_true rfl) dX11_whose_24
  refine lv_aload_n hx hb dX11_whose_0 rfl (lv_at hl 0 rfl) ?_
  refine t_get (C := RX11) (T := TX11) (N := 16) X hT m0 g0 rfl rfl 2 (by decide) qw_150 inlX11 rfl dX11_whose_1 (fun v81123 hv81123 ov81123 => ?_)
  obtain ⟨z81124, rfl, rz81124⟩ := okV_i ov81123
  refine lv_if_eq (tgt := 19) hx hb dX11_whose_4 (by decide) (fun c81125 => ?_) (fun c81125 => ?_)
  · have w81126 := cv_eq (rfl : z81124.toInt = z81124.toInt) (by decide : (0 : Int32).toInt = 0) c81125
    exact K19 z81124 _ _ _ _ (by omega) hT hfr hv81123 (lv_sub hl [0, 1, 2] rfl)
  · have w81127 := cv_ne (rfl : z81124.toInt = z81124.toInt) (by decide : (0 : Int32).toInt = 0) c81125
    refine lv_aload_n hx hb dX11_whose_7 rfl (lv_at hl 0 rfl) ?_
    refine t_get (C := RX11) (T := TX11) (N := 16) X hT m0 g0 rfl rfl 3 (by decide) qw_18 inlX11 rfl dX11_whose_8 (fun v81128 hv81128 ov81128 => ?_)
    obtain ⟨b81129, rfl, mb81129, gb81129⟩ := okV_r ov81128
    have gb81129 : tag b81129 = 18 := tg_of gb81129
    refine lv_iload_n hx hb dX11_whose_11 rfl (lv_at hl 1 rfl) ?_
    refine lv_iload_n hx hb dX11_whose_12 rfl (lv_at hl 2 rfl) ?_
    refine t_cVi (n := 2) (C := RX1) (T := TX1) (N := 20) (As := [.int p1, .int p2]) (rest := []) X hT (kt6_X1_isOn l G tag L F hT.2.2.2 b81129 p1 p2 mb81129 gb81129) mb81129 gb81129 rfl rfl qw_711 qw_385 qw_386 qw_17 qw_387 ⟨rfl, by decide +kernel, by decide +kernel, by decide +kernel⟩ ⟨Nat.le_of_ble_eq_true rfl, Nat.le_of_ble_eq_true rfl⟩ hl rfl rfl (Nat.le_of_ble_eq_true rfl) dX11_whose_13 ⟨Nat.le_of_ble_eq_true rfl, Nat.le_of_ble_eq_true rfl⟩ (fun z81130 F9 H locs hT hz81130 => ?_)
    obtain ⟨fz81130, hz81130⟩ := hz81130
    rw [fz81130] at hT
    refine lv_if_ne (tgt := 25) hx hb dX11_whose_16 (by decide) (fun c81131 => ?_) (fun c81131 => ?_)
    · have w81132 := cv_ne (rfl : z81130.toInt = z81130.toInt) (by decide : (0 : Int32).toInt = 0) c81131
      refine lv_aload_n hx hb dX11_whose_25 rfl (lv_at hl 0 rfl) ?_
      refine lv_aload_n hx hb dX11_whose_26 rfl (lv_at hl 0 rfl) ?_
      refine t_get (C := RX11) (T := TX11) (N := 16) X hT m0 g0 rfl rfl 3 (by decide) qw_18 inlX11 rfl dX11_whose_27 (fun v81133 hv81133 ov81133 => ?_)
      obtain rfl : v81133 = .ref b81129 := hv81133.symm.trans hv81128
      refine lv_aload_n hx hb dX11_whose_30 rfl (lv_at hl 0 rfl) ?_
      refine t_get (C := RX11) (T := TX11) (N := 16) X hT m0 g0 rfl rfl 5 (by decide) qw_23 inlX11 rfl dX11_whose_31 (fun v81134 hv81134 ov81134 => ?_)
      obtain ⟨b81135, rfl, mb81135, gb81135⟩ := okV_r ov81134
      have gb81135 : tag b81135 = 19 := tg_of gb81135
      refine lv_iload_n hx hb dX11_whose_34 rfl (lv_at hl 1 rfl) ?_
      refine lv_iload_n hx hb dX11_whose_35 rfl (lv_at hl 2 rfl) ?_
      refine t_cSi (n := 4) (As := [.ref b81129, .ref b81135, .int p1, .int p2]) (rest := [.ref p0]) X hT (kt28_X6_ownersOf l G tag L F hT.2.2.2 b81129 b81135 p1 p2 mb81129 gb81129 mb81135 gb81135) qw_712 qw_713 qw_380 qw_714 ⟨by decide +kernel, by decide +kernel, by decide +kernel⟩ ⟨Nat.le_of_ble_eq_true rfl, Nat.le_of_ble_eq_true rfl⟩ hl rfl rfl (Nat.le_of_ble_eq_true rfl) dX11_whose_36 ⟨Nat.le_of_ble_eq_true rfl, Nat.le_of_ble_eq_true rfl⟩ (fun z81136 F9 H locs hT hz81136 => ?_)
      obtain ⟨fz81136, hz81136⟩ := hz81136
      rw [fz81136] at hT
      refine t_cVi (n := 1) (C := RX11) (T := TX11) (N := 16) (As := [.int z81136]) (rest := []) X hT (kt56_X11_answer l G tag L F hT.2.2.2 p0 z81136 m0 g0) m0 g0 rfl rfl qw_463 qw_464 qw_465 qw_2 qw_466 ⟨rfl, by decide +kernel, by decide +kernel, by decide +kernel⟩ ⟨Nat.le_of_ble_eq_true rfl, Nat.le_of_ble_eq_true rfl⟩ hl rfl rfl (Nat.le_of_ble_eq_true rfl) dX11_whose_39 ⟨Nat.le_of_ble_eq_true rfl, Nat.le_of_ble_eq_true rfl⟩ (fun z81137 F H locs hT hz81137 => ?_)
      obtain ⟨hz81137, yz81137⟩ := hz81137
      have hv81123 := (yz81137.1 _ 2 (Or.inr (by decide))).trans hv81123
      have hv81128 := (yz81137.1 _ 3 (Or.inr (by decide))).trans hv81128
      have hv81134 := (yz81137.1 _ 5 (Or.inr (by decide))).trans hv81134
      have hfr : (∀ b j : Nat, (tag b ≠ 26 ∨ j ≠ 13) → fld F b j = fld Fo b j) ∧ EF tag F Fo := ⟨fun b j n26_13 => (yz81137.1 b j n26_13).trans (hfr.1 b j n26_13), fun b j hb => (yz81137.2 b j hb).trans (hfr.2 b j hb)⟩
      exact t_iret hQ X hT (⟨rg_all _, hfr⟩) (Nat.le_of_ble_eq_true rfl) (Nat.le_of_ble_eq_true rfl) dX11_whose_42
    · have w81138 := cv_eq (rfl : z81130.toInt = z81130.toInt) (by decide : (0 : Int32).toInt = 0) c81131
      exact K19 z81124 _ _ _ _ (by omega) hT hfr hv81123 (lv_sub hl [0, 1, 2] rfl)
set_option maxHeartbeats 4000000 in
set_option maxRecDepth 100000 in
theorem kt193_X11_worth (l : Launch) (G : KG) (tag : Nat → Nat) (L : List Nat) (Fo : Nat → va_E) (ho : okT G ttC tag L Fo) (p0 : Nat) (p1 : Int32) (m0 : p0 ∈ L) (g0 : tag p0 = 26) : TMi l yX11_worth cX11_worth 4 (some .int) { frames := 2, cells := 0, slots := 0, locals := 46 } G ttC tag L Fo [.ref p0, .int p1] (fun r F1 => ((-2147483648) ≤ r.toInt ∧ r.toInt ≤ 2147483647) ∧ ((∀ b j : Nat, (tag b ≠ 26 ∨ j ≠ 13) → fld F1 b j = fld Fo b j) ∧ EF tag F1 Fo)) := by
  refine t_bodyi (y := yX11_worth) (cd := cX11_worth) (mL := 4) (rt := (some .int)) (rm := { frames := 2, cells := 0, slots := 0, locals := 46 }) (av := [.ref p0, .int p1]) (by decide) (Nat.le_of_ble_eq_true rfl) ho ?_
  intro p e s m args below meth c ls A Q hQ X hT hl
  have hx := X.1.1
  have hb := X.1.2.1
  have hl : lv_has ls 4 [(0, .ref p0), (1, .int p1)] := hl
  have rp1 := rg_all p1
  obtain ⟨F, hFo⟩ : ∃ F : Nat → va_E, F = Fo := ⟨_, rfl⟩
  rw [← hFo] at hT
  have hfr : (∀ b j : Nat, (tag b ≠ 26 ∨ j ≠ 13) → fld F b j = fld Fo b j) ∧ EF tag F Fo := by
    rw [hFo]
    exact ⟨by intros; rfl, fun _ _ _ => rfl⟩
  have K18 : ∀ (n : Nat) (z81612 : Int32) (z81613 : Int32) (F : Nat → va_E) (H : Heap) (locs : List Loc) (ls : Array Slot), (6 - z81613.toInt < (n : Int)) → (1 ≤ z81613.toInt ∧ z81613.toInt ≤ 6) → (0 ≤ p1.toInt ∧ p1.toInt ≤ 3) → TH G ttC A s tag L F H locs → ((∀ b j : Nat, (tag b ≠ 26 ∨ j ≠ 13) → fld F b j = fld Fo b j) ∧ EF tag F Fo) → lv_has ls 4 [(0, .ref p0), (1, .int p1), (2, .int z81612), (3, .int z81613)] → W p l e { frames := 2, cells := 0, slots := 0, locals := 46 } s m args below meth c H locs 0 0 Q (F0 m 18 ls []) := by
    intro n
    induction n with
    | zero =>
      intro z81612 z81613 F H locs ls hn rz81613 r9s81611 hT hfr hl
      have rz81612 := rg_all z81612
      exfalso
      omega
    | succ n ih18 =>
      intro z81612 z81613 F H locs ls hn rz81613 r9s81611 hT hfr hl
      have rz81612 := rg_all z81612
      have K67 : ∀ (z81614 : Int32) (F : Nat → va_E) (H : Heap) (locs : List Loc) (ls : Array Slot), (1 ≤ z81613.toInt ∧ z81613.toInt ≤ 5) → TH G ttC A s tag L F H locs → ((∀ b j : Nat, (tag b ≠ 26 ∨ j ≠ 13) → fld F b j = fld Fo b j) ∧ EF tag F Fo) → lv_has ls 4 [(0, .ref p0), (1, .int p1), (2, .int z81614), (3, .int z81613)] → W p l e { frames := 2, cells := 0, slots := 0, locals := 46 } s m args below meth c H locs 0 0 Q (F0 m 67 ls []) := by
        intro z81614 F H locs ls r9s81615 hT hfr hl
        have rz81614 := rg_all z81614
        obtain ⟨z81616, ez81616⟩ : ∃ y : Int32, y = z81613 + 1 := ⟨_, rfl⟩
        have hz81616 : z81616.toInt = z81613.toInt + 1 := ar_add ez81616 rfl (by decide : (1 : Int32).toInt = 1) (by omega) (by omega)
        refine lv_iinc (v := z81616) (lv' := [(3, .int z81616), (0, .ref p0), (1, .int p1), (2, .int z81614)]) hx hb dX11_worth_67 hl (k := 3) rfl (by rw [ez81616]; rfl) (by decide) rfl (fun ls hl => ?_)
        refine lv_goto (tgt := 18) hx hb dX11_worth_70 (by decide) ?_
        exact ih18 z81614 z81616 _ _ _ _ (by omega) (by omega) (by omega) hT hfr  (lv_sub hl [1, 2, 3, 0] rfl)
      refine lv_iload_n hx hb dX11_worth_18 rfl (lv_at hl 3 rfl) ?_
      refine lv_aload_n hx hb dX11_worth_19 rfl (lv_at hl 0 rfl) ?_
      refine t_get (C := RX11) (T := TX11) (N := 16) X hT m0 g0 rfl rfl 5 (by decide) qw_23 inlX11 rfl dX11_worth_20 (fun v81617 hv81617 ov81617 => ?_)
      obtain ⟨b81618, rfl, mb81618, gb81618⟩ := okV_r ov81617
      have gb81618 : tag b81618 = 19 := tg_of gb81618
      refine t_get (C := RX7) (T := TX7) (N := 7) X hT mb81618 gb81618 rfl rfl 2 (by decide) qw_766 inlX7 rfl dX11_worth_23 (fun v81619 hv81619 ov81619 => ?_)
      obtain ⟨b81620, rfl, mb81620, gb81620⟩ := okV_r ov81619
      have gb81620 : tag b81620 = 8 := tg_of gb81620
      refine lv_iload_n hx hb dX11_worth_26 rfl (lv_at hl 1 rfl) ?_
      refine t_ild X hT mb81620 gb81620 rfl (by omega) dX11_worth_27 (fun z81621 vz81621 rz81621 => ?_)
      have rz81621 : 0 ≤ z81621.toInt ∧ z81621.toInt ≤ 6 := rz81621
      refine lv_icmp_ge (tgt := 73) hx hb dX11_worth_28 (by decide) (fun c81622 => ?_) (fun c81622 => ?_)
      · have w81623 := cv_le (rfl : z81621.toInt = z81621.toInt) (rfl : z81613.toInt = z81613.toInt) c81622
        refine lv_aload_n hx hb dX11_worth_73 rfl (lv_at hl 0 rfl) ?_
        refine lv_iload_n hx hb dX11_worth_74 rfl (lv_at hl 2 rfl) ?_
        refine t_cVi (n := 1) (C := RX11) (T := TX11) (N := 16) (As := [.int z81612]) (rest := []) X hT (kt56_X11_answer l G tag L F hT.2.2.2 p0 z81612 m0 g0) m0 g0 rfl rfl qw_463 qw_464 qw_465 qw_2 qw_466 ⟨rfl, by decide +kernel, by decide +kernel, by decide +kernel⟩ ⟨Nat.le_of_ble_eq_true rfl, Nat.le_of_ble_eq_true rfl⟩ hl rfl rfl (Nat.le_of_ble_eq_true rfl) dX11_worth_75 ⟨Nat.le_of_ble_eq_true rfl, Nat.le_of_ble_eq_true rfl⟩ (fun z81624 F H locs hT hz81624 => ?_)
        obtain ⟨hz81624, yz81624⟩ := hz81624
        have hv81617 := (yz81624.1 _ 5 (Or.inr (by decide))).trans hv81617
        have hv81619 := (yz81624.1 _ 2 (Or.inr (by decide))).trans hv81619
        have hfr : (∀ b j : Nat, (tag b ≠ 26 ∨ j ≠ 13) → fld F b j = fld Fo b j) ∧ EF tag F Fo := ⟨fun b j n26_13 => (yz81624.1 b j n26_13).trans (hfr.1 b j n26_13), fun b j hb => (yz81624.2 b j hb).trans (hfr.2 b j hb)⟩
        exact t_iret hQ X hT (⟨rg_all _, hfr⟩) (Nat.le_of_ble_eq_true rfl) (Nat.le_of_ble_eq_true rfl) dX11_worth_78
      · have w81625 := cv_nle (rfl : z81621.toInt = z81621.toInt) (rfl : z81613.toInt = z81613.toInt) c81622
        refine lv_aload_n hx hb dX11_worth_31 rfl (lv_at hl 0 rfl) ?_
        refine t_get (C := RX11) (T := TX11) (N := 16) X hT m0 g0 rfl rfl 5 (by decide) qw_23 inlX11 rfl dX11_worth_32 (fun v81626 hv81626 ov81626 => ?_)
        obtain rfl : v81626 = .ref b81618 := hv81626.symm.trans hv81617
        refine lv_iload_n hx hb dX11_worth_35 rfl (lv_at hl 1 rfl) ?_
        refine lv_iload_n hx hb dX11_worth_36 rfl (lv_at hl 3 rfl) ?_
        refine t_cVi (n := 2) (C := RX7) (T := TX7) (N := 7) (As := [.int p1, .int z81613]) (rest := []) X hT (kt18_X7_stands l G tag L F hT.2.2.2 b81618 p1 z81613 mb81618 gb81618) mb81618 gb81618 rfl rfl qw_852 qw_853 qw_854 qw_22 qw_855 ⟨rfl, by decide +kernel, by decide +kernel, by decide +kernel⟩ ⟨Nat.le_of_ble_eq_true rfl, Nat.le_of_ble_eq_true rfl⟩ hl rfl rfl (Nat.le_of_ble_eq_true rfl) dX11_worth_37 ⟨Nat.le_of_ble_eq_true rfl, Nat.le_of_ble_eq_true rfl⟩ (fun z81627 F9 H locs hT hz81627 => ?_)
        obtain ⟨fz81627, hz81627⟩ := hz81627
        rw [fz81627] at hT
        refine lv_if_eq (tgt := 67) hx hb dX11_worth_40 (by decide) (fun c81628 => ?_) (fun c81628 => ?_)
        · have w81629 := cv_eq (rfl : z81627.toInt = z81627.toInt) (by decide : (0 : Int32).toInt = 0) c81628
          exact K67 z81612 _ _ _ _ (by omega) hT hfr  (lv_sub hl [0, 1, 2, 3] rfl)
        · have w81630 := cv_ne (rfl : z81627.toInt = z81627.toInt) (by decide : (0 : Int32).toInt = 0) c81628
          refine lv_aload_n hx hb dX11_worth_43 rfl (lv_at hl 0 rfl) ?_
          refine lv_iload_n hx hb dX11_worth_44 rfl (lv_at hl 1 rfl) ?_
          refine lv_iload_n hx hb dX11_worth_45 rfl (lv_at hl 3 rfl) ?_
          refine t_cVi (n := 2) (C := RX11) (T := TX11) (N := 16) (As := [.int p1, .int z81613]) (rest := []) X hT (kt76_X11_isLivedIn l G tag L F hT.2.2.2 p0 p1 z81613 m0 g0) m0 g0 rfl rfl qw_1316 qw_1317 qw_1318 qw_2 qw_1319 ⟨rfl, by decide +kernel, by decide +kernel, by decide +kernel⟩ ⟨Nat.le_of_ble_eq_true rfl, Nat.le_of_ble_eq_true rfl⟩ hl rfl rfl (Nat.le_of_ble_eq_true rfl) dX11_worth_46 ⟨Nat.le_of_ble_eq_true rfl, Nat.le_of_ble_eq_true rfl⟩ (fun z81631 F9 H locs hT hz81631 => ?_)
          obtain ⟨fz81631, hz81631⟩ := hz81631
          rw [fz81631] at hT
          refine lv_if_eq (tgt := 58) hx hb dX11_worth_49 (by decide) (fun c81632 => ?_) (fun c81632 => ?_)
          · have w81633 := cv_eq (rfl : z81631.toInt = z81631.toInt) (by decide : (0 : Int32).toInt = 0) c81632
            refine lv_iload_n hx hb dX11_worth_58 rfl (lv_at hl 2 rfl) ?_
            refine lv_aload_n hx hb dX11_worth_59 rfl (lv_at hl 0 rfl) ?_
            refine lv_iload_n hx hb dX11_worth_60 rfl (lv_at hl 1 rfl) ?_
            refine lv_iload_n hx hb dX11_worth_61 rfl (lv_at hl 3 rfl) ?_
            refine t_cVi (n := 2) (C := RX11) (T := TX11) (N := 16) (As := [.int p1, .int z81613]) (rest := [.int z81612]) X hT (kt84_X11_goldIn l G tag L F hT.2.2.2 p0 p1 z81613 m0 g0) m0 g0 rfl rfl qw_1296 qw_1297 qw_1298 qw_2 qw_1299 ⟨rfl, by decide +kernel, by decide +kernel, by decide +kernel⟩ ⟨Nat.le_of_ble_eq_true rfl, Nat.le_of_ble_eq_true rfl⟩ hl rfl rfl (Nat.le_of_ble_eq_true rfl) dX11_worth_62 ⟨Nat.le_of_ble_eq_true rfl, Nat.le_of_ble_eq_true rfl⟩ (fun z81634 F9 H locs hT hz81634 => ?_)
            obtain ⟨fz81634, hz81634⟩ := hz81634
            rw [fz81634] at hT
            refine lv_iadd hx hb dX11_worth_65 ?_
            refine lv_topi (fun z81635 ez81635 => ?_)
            have rz81635 := rg_all z81635
            refine lv_istore_n (lv' := [(2, .int z81635), (0, .ref p0), (1, .int p1), (3, .int z81613)]) hx hb dX11_worth_66 rfl hl (by decide) rfl (fun ls hl => ?_)
            exact K67 z81635 _ _ _ _ (by omega) hT hfr  (lv_sub hl [1, 2, 0, 3] rfl)
          · have w81636 := cv_ne (rfl : z81631.toInt = z81631.toInt) (by decide : (0 : Int32).toInt = 0) c81632
            refine lv_aload_n hx hb dX11_worth_52 rfl (lv_at hl 0 rfl) ?_
            refine lv_iload_n hx hb dX11_worth_53 rfl (lv_at hl 2 rfl) ?_
            refine t_cVi (n := 1) (C := RX11) (T := TX11) (N := 16) (As := [.int z81612]) (rest := []) X hT (kt56_X11_answer l G tag L F hT.2.2.2 p0 z81612 m0 g0) m0 g0 rfl rfl qw_463 qw_464 qw_465 qw_2 qw_466 ⟨rfl, by decide +kernel, by decide +kernel, by decide +kernel⟩ ⟨Nat.le_of_ble_eq_true rfl, Nat.le_of_ble_eq_true rfl⟩ hl rfl rfl (Nat.le_of_ble_eq_true rfl) dX11_worth_54 ⟨Nat.le_of_ble_eq_true rfl, Nat.le_of_ble_eq_true rfl⟩ (fun z81637 F H locs hT hz81637 => ?_)
            obtain ⟨hz81637, yz81637⟩ := hz81637
            have hv81617 := (yz81637.1 _ 5 (Or.inr (by decide))).trans hv81617
            have hv81619 := (yz81637.1 _ 2 (Or.inr (by decide))).trans hv81619
            have hfr : (∀ b j : Nat, (tag b ≠ 26 ∨ j ≠ 13) → fld F b j = fld Fo b j) ∧ EF tag F Fo := ⟨fun b j n26_13 => (yz81637.1 b j n26_13).trans (hfr.1 b j n26_13), fun b j hb => (yz81637.2 b j hb).trans (hfr.2 b j hb)⟩
            exact t_iret hQ X hT (⟨rg_all _, hfr⟩) (Nat.le_of_ble_eq_true rfl) (Nat.le_of_ble_eq_true rfl) dX11_worth_57
  refine lv_aload_n hx hb dX11_worth_0 rfl (lv_at hl 0 rfl) ?_
  refine lv_iload_n hx hb dX11_worth_1 rfl (lv_at hl 1 rfl) ?_
  refine t_cVi (n := 1) (C := RX11) (T := TX11) (N := 16) (As := [.int p1]) (rest := []) X hT (kt61_X11_isHouse l G tag L F hT.2.2.2 p0 p1 m0 g0) m0 g0 rfl rfl qw_770 qw_771 qw_772 qw_2 qw_773 ⟨rfl, by decide +kernel, by decide +kernel, by decide +kernel⟩ ⟨Nat.le_of_ble_eq_true rfl, Nat.le_of_ble_eq_true rfl⟩ hl rfl rfl (Nat.le_of_ble_eq_true rfl) dX11_worth_2 ⟨Nat.le_of_ble_eq_true rfl, Nat.le_of_ble_eq_true rfl⟩ (fun z81638 F9 H locs hT hz81638 => ?_)
  obtain ⟨fz81638, hz81638⟩ := hz81638
  rw [fz81638] at hT
  obtain ⟨hz81638, iz81638⟩ := hz81638
  refine lv_if_ne (tgt := 14) hx hb dX11_worth_5 (by decide) (fun c81639 => ?_) (fun c81639 => ?_)
  · have w81640 := cv_ne (rfl : z81638.toInt = z81638.toInt) (by decide : (0 : Int32).toInt = 0) c81639
    have w81641 := (fun h => (iz81638 h)) (by omega)
    refine lv_iconst (v := 0) hx hb dX11_worth_14 (by decide) ?_
    refine lv_istore_n (lv' := [(2, .int 0), (0, .ref p0), (1, .int p1)]) hx hb dX11_worth_15 rfl hl (by decide) rfl (fun ls hl => ?_)
    refine lv_iconst (v := 1) hx hb dX11_worth_16 (by decide) ?_
    refine lv_istore_n (lv' := [(3, .int 1), (2, .int 0), (0, .ref p0), (1, .int p1)]) hx hb dX11_worth_17 rfl hl (by decide) rfl (fun ls hl => ?_)
    have kk81642 : (0 : Int32).toInt = 0 := by decide
    have kk81643 : (1 : Int32).toInt = 1 := by decide
    exact K18 6 0 1 _ _ _ _ (by omega) (by decide) (by omega) hT hfr  (lv_sub hl [2, 3, 1, 0] rfl)
  · have w81644 := cv_eq (rfl : z81638.toInt = z81638.toInt) (by decide : (0 : Int32).toInt = 0) c81639
    refine lv_aload_n hx hb dX11_worth_8 rfl (lv_at hl 0 rfl) ?_
    refine lv_iconst (v := 1) hx hb dX11_worth_9 (by decide) ?_
    refine t_cVi (n := 1) (C := RX11) (T := TX11) (N := 16) (As := [.int 1]) (rest := []) X hT (kt63_X11_refuse l G tag L F hT.2.2.2 p0 1 m0 g0) m0 g0 rfl rfl qw_152 qw_153 qw_154 qw_2 qw_155 ⟨rfl, by decide +kernel, by decide +kernel, by decide +kernel⟩ ⟨Nat.le_of_ble_eq_true rfl, Nat.le_of_ble_eq_true rfl⟩ hl rfl rfl (Nat.le_of_ble_eq_true rfl) dX11_worth_10 ⟨Nat.le_of_ble_eq_true rfl, Nat.le_of_ble_eq_true rfl⟩ (fun z81645 F H locs hT hz81645 => ?_)
    obtain ⟨hz81645, yz81645⟩ := hz81645
    have hfr : (∀ b j : Nat, (tag b ≠ 26 ∨ j ≠ 13) → fld F b j = fld Fo b j) ∧ EF tag F Fo := ⟨fun b j n26_13 => (yz81645.1 b j n26_13).trans (hfr.1 b j n26_13), fun b j hb => (yz81645.2 b j hb).trans (hfr.2 b j hb)⟩
    exact t_iret hQ X hT (⟨rg_all _, hfr⟩) (Nat.le_of_ble_eq_true rfl) (Nat.le_of_ble_eq_true rfl) dX11_worth_13
set_option maxHeartbeats 4000000 in
set_option maxRecDepth 100000 in
theorem kt194_X11_years (l : Launch) (G : KG) (tag : Nat → Nat) (L : List Nat) (Fo : Nat → va_E) (ho : okT G ttC tag L Fo) (p0 : Nat) (p1 : Int32) (m0 : p0 ∈ L) (g0 : tag p0 = 26) : TMi l yX11_years cX11_years 3 (some .int) { frames := 6, cells := 0, slots := 0, locals := 157 } G ttC tag L Fo [.ref p0, .int p1] (fun r F1 => ((-2147483648) ≤ r.toInt ∧ r.toInt ≤ 2147483647) ∧ ((∀ b j : Nat, (tag b ≠ 19 ∨ j ≠ 0) → (tag b ≠ 19 ∨ j ≠ 1) → (tag b ≠ 23 ∨ j ≠ 2) → (tag b ≠ 23 ∨ j ≠ 3) → (tag b ≠ 26 ∨ j ≠ 13) → fld F1 b j = fld Fo b j) ∧ EF tag F1 Fo)) := by
  refine t_bodyi (y := yX11_years) (cd := cX11_years) (mL := 3) (rt := (some .int)) (rm := { frames := 6, cells := 0, slots := 0, locals := 157 }) (av := [.ref p0, .int p1]) (by decide) (Nat.le_of_ble_eq_true rfl) ho ?_
  intro p e s m args below meth c ls A Q hQ X hT hl
  have hx := X.1.1
  have hb := X.1.2.1
  have hl : lv_has ls 3 [(0, .ref p0), (1, .int p1)] := hl
  have rp1 := rg_all p1
  obtain ⟨F, hFo⟩ : ∃ F : Nat → va_E, F = Fo := ⟨_, rfl⟩
  rw [← hFo] at hT
  have hfr : (∀ b j : Nat, (tag b ≠ 19 ∨ j ≠ 0) → (tag b ≠ 19 ∨ j ≠ 1) → (tag b ≠ 23 ∨ j ≠ 2) → (tag b ≠ 23 ∨ j ≠ 3) → (tag b ≠ 26 ∨ j ≠ 13) → fld F b j = fld Fo b j) ∧ EF tag F Fo := by
    rw [hFo]
    exact ⟨by intros; rfl, fun _ _ _ => rfl⟩
  have K24 : ∀ (z82301 : Int32) (F : Nat → va_E) (H : Heap) (locs : List Loc) (ls : Array Slot), (1 ≤ z82301.toInt ∧ z82301.toInt ≤ 1) → TH G ttC A s tag L F H locs → ((∀ b j : Nat, (tag b ≠ 19 ∨ j ≠ 0) → (tag b ≠ 19 ∨ j ≠ 1) → (tag b ≠ 23 ∨ j ≠ 2) → (tag b ≠ 23 ∨ j ≠ 3) → (tag b ≠ 26 ∨ j ≠ 13) → fld F b j = fld Fo b j) ∧ EF tag F Fo) → fld F p0 2 = .int z82301 → lv_has ls 3 [(0, .ref p0), (1, .int p1)] → W p l e { frames := 6, cells := 0, slots := 0, locals := 157 } s m args below meth c H locs 0 0 Q (F0 m 24 ls []) := by
    intro z82301 F H locs ls rz82301 hT hfr qz82301 hl
    refine lv_aload_n hx hb dX11_years_24 rfl (lv_at hl 0 rfl) ?_
    refine lv_iconst (v := 2) hx hb dX11_years_25 (by decide) ?_
    refine t_cVi (n := 1) (C := RX11) (T := TX11) (N := 16) (As := [.int 2]) (rest := []) X hT (kt63_X11_refuse l G tag L F hT.2.2.2 p0 2 m0 g0) m0 g0 rfl rfl qw_152 qw_153 qw_154 qw_2 qw_155 ⟨rfl, by decide +kernel, by decide +kernel, by decide +kernel⟩ ⟨Nat.le_of_ble_eq_true rfl, Nat.le_of_ble_eq_true rfl⟩ hl rfl rfl (Nat.le_of_ble_eq_true rfl) dX11_years_26 ⟨Nat.le_of_ble_eq_true rfl, Nat.le_of_ble_eq_true rfl⟩ (fun z82302 F H locs hT hz82302 => ?_)
    obtain ⟨hz82302, yz82302⟩ := hz82302
    have qz82301 := (yz82302.1 _ 2 (Or.inr (by decide))).trans qz82301
    have hfr : (∀ b j : Nat, (tag b ≠ 19 ∨ j ≠ 0) → (tag b ≠ 19 ∨ j ≠ 1) → (tag b ≠ 23 ∨ j ≠ 2) → (tag b ≠ 23 ∨ j ≠ 3) → (tag b ≠ 26 ∨ j ≠ 13) → fld F b j = fld Fo b j) ∧ EF tag F Fo := ⟨fun b j n19_0 n19_1 n23_2 n23_3 n26_13 => (yz82302.1 b j n26_13).trans (hfr.1 b j n19_0 n19_1 n23_2 n23_3 n26_13), fun b j hb => (yz82302.2 b j hb).trans (hfr.2 b j hb)⟩
    exact t_iret hQ X hT (⟨rg_all _, hfr⟩) (Nat.le_of_ble_eq_true rfl) (Nat.le_of_ble_eq_true rfl) dX11_years_29
  have K64 : ∀ (n : Nat) (z82304 : Int32) (z82305 : Int32) (F : Nat → va_E) (H : Heap) (locs : List Loc) (ls : Array Slot), (20 - z82304.toInt < (n : Int)) → (0 ≤ z82304.toInt ∧ z82304.toInt ≤ 20) → (1 ≤ z82305.toInt ∧ z82305.toInt ≤ 1) → (1 ≤ p1.toInt ∧ p1.toInt ≤ 20) → TH G ttC A s tag L F H locs → ((∀ b j : Nat, (tag b ≠ 19 ∨ j ≠ 0) → (tag b ≠ 19 ∨ j ≠ 1) → (tag b ≠ 23 ∨ j ≠ 2) → (tag b ≠ 23 ∨ j ≠ 3) → (tag b ≠ 26 ∨ j ≠ 13) → fld F b j = fld Fo b j) ∧ EF tag F Fo) → fld F p0 2 = .int z82305 → lv_has ls 3 [(0, .ref p0), (1, .int p1), (2, .int z82304)] → W p l e { frames := 6, cells := 0, slots := 0, locals := 157 } s m args below meth c H locs 0 0 Q (F0 m 64 ls []) := by
    intro n
    induction n with
    | zero =>
      intro z82304 z82305 F H locs ls hn rz82304 rz82305 r9s82303 hT hfr qz82305 hl
      exfalso
      omega
    | succ n ih64 =>
      intro z82304 z82305 F H locs ls hn rz82304 rz82305 r9s82303 hT hfr qz82305 hl
      refine lv_iload_n hx hb dX11_years_64 rfl (lv_at hl 2 rfl) ?_
      refine lv_iload_n hx hb dX11_years_65 rfl (lv_at hl 1 rfl) ?_
      refine lv_icmp_ge (tgt := 89) hx hb dX11_years_66 (by decide) (fun c82306 => ?_) (fun c82306 => ?_)
      · have w82307 := cv_le (rfl : p1.toInt = p1.toInt) (rfl : z82304.toInt = z82304.toInt) c82306
        refine lv_aload_n hx hb dX11_years_89 rfl (lv_at hl 0 rfl) ?_
        refine lv_aload_n hx hb dX11_years_90 rfl (lv_at hl 0 rfl) ?_
        refine t_get (C := RX11) (T := TX11) (N := 16) X hT m0 g0 rfl rfl 5 (by decide) qw_23 inlX11 rfl dX11_years_91 (fun v82308 hv82308 ov82308 => ?_)
        obtain ⟨b82309, rfl, mb82309, gb82309⟩ := okV_r ov82308
        have gb82309 : tag b82309 = 19 := tg_of gb82309
        refine t_cVi (n := 0) (C := RX7) (T := TX7) (N := 7) (As := []) (rest := [.ref p0]) X hT (kt23_X7_skinsOfAll l G tag L F hT.2.2.2 b82309 mb82309 gb82309) mb82309 gb82309 rfl rfl qw_1182 qw_1183 qw_1184 qw_22 qw_1185 ⟨rfl, by decide +kernel, by decide +kernel, by decide +kernel⟩ ⟨Nat.le_of_ble_eq_true rfl, Nat.le_of_ble_eq_true rfl⟩ hl rfl rfl (Nat.le_of_ble_eq_true rfl) dX11_years_94 ⟨Nat.le_of_ble_eq_true rfl, Nat.le_of_ble_eq_true rfl⟩ (fun z82310 F9 H locs hT hz82310 => ?_)
        obtain ⟨fz82310, hz82310⟩ := hz82310
        rw [fz82310] at hT
        refine t_cVi (n := 1) (C := RX11) (T := TX11) (N := 16) (As := [.int z82310]) (rest := []) X hT (kt56_X11_answer l G tag L F hT.2.2.2 p0 z82310 m0 g0) m0 g0 rfl rfl qw_463 qw_464 qw_465 qw_2 qw_466 ⟨rfl, by decide +kernel, by decide +kernel, by decide +kernel⟩ ⟨Nat.le_of_ble_eq_true rfl, Nat.le_of_ble_eq_true rfl⟩ hl rfl rfl (Nat.le_of_ble_eq_true rfl) dX11_years_97 ⟨Nat.le_of_ble_eq_true rfl, Nat.le_of_ble_eq_true rfl⟩ (fun z82311 F H locs hT hz82311 => ?_)
        obtain ⟨hz82311, yz82311⟩ := hz82311
        have qz82305 := (yz82311.1 _ 2 (Or.inr (by decide))).trans qz82305
        have hv82308 := (yz82311.1 _ 5 (Or.inr (by decide))).trans hv82308
        have hfr : (∀ b j : Nat, (tag b ≠ 19 ∨ j ≠ 0) → (tag b ≠ 19 ∨ j ≠ 1) → (tag b ≠ 23 ∨ j ≠ 2) → (tag b ≠ 23 ∨ j ≠ 3) → (tag b ≠ 26 ∨ j ≠ 13) → fld F b j = fld Fo b j) ∧ EF tag F Fo := ⟨fun b j n19_0 n19_1 n23_2 n23_3 n26_13 => (yz82311.1 b j n26_13).trans (hfr.1 b j n19_0 n19_1 n23_2 n23_3 n26_13), fun b j hb => (yz82311.2 b j hb).trans (hfr.2 b j hb)⟩
        exact t_iret hQ X hT (⟨rg_all _, hfr⟩) (Nat.le_of_ble_eq_true rfl) (Nat.le_of_ble_eq_true rfl) dX11_years_100
      · have w82312 := cv_nle (rfl : p1.toInt = p1.toInt) (rfl : z82304.toInt = z82304.toInt) c82306
        refine lv_aload_n hx hb dX11_years_69 rfl (lv_at hl 0 rfl) ?_
        refine t_get (C := RX11) (T := TX11) (N := 16) X hT m0 g0 rfl rfl 3 (by decide) qw_18 inlX11 rfl dX11_years_70 (fun v82313 hv82313 ov82313 => ?_)
        obtain ⟨b82314, rfl, mb82314, gb82314⟩ := okV_r ov82313
        have gb82314 : tag b82314 = 18 := tg_of gb82314
        refine lv_aload_n hx hb dX11_years_73 rfl (lv_at hl 0 rfl) ?_
        refine t_get (C := RX11) (T := TX11) (N := 16) X hT m0 g0 rfl rfl 5 (by decide) qw_23 inlX11 rfl dX11_years_74 (fun v82315 hv82315 ov82315 => ?_)
        obtain ⟨b82316, rfl, mb82316, gb82316⟩ := okV_r ov82315
        have gb82316 : tag b82316 = 19 := tg_of gb82316
        refine t_gets X hT X.2.2.2.1.2.1.2.2.2 qw_1096 dX11_years_77 ?_
        refine t_cSv (n := 3) (As := [.ref b82314, .ref b82316, .ref (G.2 13)]) (rest := []) X hT (kt71_X10_pass l G tag L F hT.2.2.2 b82314 b82316 mb82314 gb82314 mb82316 gb82316) qw_1097 qw_1098 qw_32 qw_1099 ⟨by decide +kernel, by decide +kernel, by decide +kernel⟩ ⟨Nat.le_of_ble_eq_true rfl, Nat.le_of_ble_eq_true rfl⟩ hl rfl rfl (Nat.le_of_ble_eq_true rfl) dX11_years_80 ⟨Nat.le_of_ble_eq_true rfl, Nat.le_of_ble_eq_true rfl⟩ (fun F H locs hT hz82317 => ?_)
        have yz82317 := hz82317
        have qz82305 := (yz82317.1 _ 2 (Or.inr (by decide)) (Or.inr (by decide))).trans qz82305
        have hv82313 := (yz82317.1 _ 3 (Or.inr (by decide)) (Or.inr (by decide))).trans hv82313
        have hv82315 := (yz82317.1 _ 5 (Or.inr (by decide)) (Or.inr (by decide))).trans hv82315
        have hfr : (∀ b j : Nat, (tag b ≠ 19 ∨ j ≠ 0) → (tag b ≠ 19 ∨ j ≠ 1) → (tag b ≠ 23 ∨ j ≠ 2) → (tag b ≠ 23 ∨ j ≠ 3) → (tag b ≠ 26 ∨ j ≠ 13) → fld F b j = fld Fo b j) ∧ EF tag F Fo := ⟨fun b j n19_0 n19_1 n23_2 n23_3 n26_13 => (yz82317.1 b j n19_0 n19_1).trans (hfr.1 b j n19_0 n19_1 n23_2 n23_3 n26_13), fun b j hb => (yz82317.2 b j hb).trans (hfr.2 b j hb)⟩
        obtain ⟨z82318, ez82318⟩ : ∃ y : Int32, y = z82304 + 1 := ⟨_, rfl⟩
        have hz82318 : z82318.toInt = z82304.toInt + 1 := ar_add ez82318 rfl (by decide : (1 : Int32).toInt = 1) (by omega) (by omega)
        refine lv_iinc (v := z82318) (lv' := [(2, .int z82318), (0, .ref p0), (1, .int p1)]) hx hb dX11_years_83 hl (k := 2) rfl (by rw [ez82318]; rfl) (by decide) rfl (fun ls hl => ?_)
        refine lv_goto (tgt := 64) hx hb dX11_years_86 (by decide) ?_
        exact ih64 z82318 z82305 _ _ _ _ (by omega) (by omega) (by omega) (by omega) hT hfr qz82305 (lv_sub hl [1, 2, 0] rfl)
  refine lv_aload_n hx hb dX11_years_0 rfl (lv_at hl 0 rfl) ?_
  refine t_get (C := RX11) (T := TX11) (N := 16) X hT m0 g0 rfl rfl 2 (by decide) qw_150 inlX11 rfl dX11_years_1 (fun v82319 hv82319 ov82319 => ?_)
  obtain ⟨z82320, rfl, rz82320⟩ := okV_i ov82319
  refine lv_if_ne (tgt := 13) hx hb dX11_years_4 (by decide) (fun c82321 => ?_) (fun c82321 => ?_)
  · have w82322 := cv_ne (rfl : z82320.toInt = z82320.toInt) (by decide : (0 : Int32).toInt = 0) c82321
    refine lv_iload_n hx hb dX11_years_13 rfl (lv_at hl 1 rfl) ?_
    refine lv_iconst (v := 1) hx hb dX11_years_14 (by decide) ?_
    refine lv_icmp_lt (tgt := 24) hx hb dX11_years_15 (by decide) (fun c82323 => ?_) (fun c82323 => ?_)
    · have w82324 := cv_lt (rfl : p1.toInt = p1.toInt) (by decide : (1 : Int32).toInt = 1) c82323
      exact K24 z82320 _ _ _ _ (by omega) hT hfr hv82319 (lv_sub hl [0, 1] rfl)
    · have w82325 := cv_nlt (rfl : p1.toInt = p1.toInt) (by decide : (1 : Int32).toInt = 1) c82323
      refine lv_iload_n hx hb dX11_years_18 rfl (lv_at hl 1 rfl) ?_
      refine lv_bipush (v := 20) hx hb dX11_years_19 (by decide) ?_
      refine lv_icmp_le (tgt := 30) hx hb dX11_years_21 (by decide) (fun c82326 => ?_) (fun c82326 => ?_)
      · have w82327 := cv_le (rfl : p1.toInt = p1.toInt) (by decide : (20 : Int32).toInt = 20) c82326
        refine lv_aload_n hx hb dX11_years_30 rfl (lv_at hl 0 rfl) ?_
        refine t_get (C := RX11) (T := TX11) (N := 16) X hT m0 g0 rfl rfl 5 (by decide) qw_23 inlX11 rfl dX11_years_31 (fun v82328 hv82328 ov82328 => ?_)
        obtain ⟨b82329, rfl, mb82329, gb82329⟩ := okV_r ov82328
        have gb82329 : tag b82329 = 19 := tg_of gb82329
        refine t_get (C := RX7) (T := TX7) (N := 7) X hT mb82329 gb82329 rfl rfl 0 (by decide) qw_1225 inlX7 rfl dX11_years_34 (fun v82330 hv82330 ov82330 => ?_)
        obtain ⟨z82331, rfl, rz82331⟩ := okV_i ov82330
        refine lv_iload_n hx hb dX11_years_37 rfl (lv_at hl 1 rfl) ?_
        refine lv_iadd hx hb dX11_years_38 ?_
        refine lv_topi (fun z82332 ez82332 => ?_)
        have rz82332 := rg_all z82332
        refine lv_sipush (v := 999) hx hb dX11_years_39 (by decide) ?_
        refine lv_icmp_le (tgt := 51) hx hb dX11_years_42 (by decide) (fun c82333 => ?_) (fun c82333 => ?_)
        · have w82334 := cv_le (rfl : z82332.toInt = z82332.toInt) (by decide : (999 : Int32).toInt = 999) c82333
          refine lv_aload_n hx hb dX11_years_51 rfl (lv_at hl 0 rfl) ?_
          refine t_get (C := RX11) (T := TX11) (N := 16) X hT m0 g0 rfl rfl 12 (by decide) qw_45 inlX11 rfl dX11_years_52 (fun v82335 hv82335 ov82335 => ?_)
          obtain ⟨b82336, rfl, mb82336, gb82336⟩ := okV_r ov82335
          have gb82336 : tag b82336 = 23 := tg_of gb82336
          refine lv_aload_n hx hb dX11_years_55 rfl (lv_at hl 0 rfl) ?_
          refine t_get (C := RX11) (T := TX11) (N := 16) X hT m0 g0 rfl rfl 5 (by decide) qw_23 inlX11 rfl dX11_years_56 (fun v82337 hv82337 ov82337 => ?_)
          obtain rfl : v82337 = .ref b82329 := hv82337.symm.trans hv82328
          refine t_cVv (n := 1) (C := RX2) (T := TX2) (N := 5) (As := [.ref b82329]) (rest := []) X hT (kt66_X2_keep l G tag L F hT.2.2.2 b82336 b82329 mb82336 gb82336 mb82329 gb82329) mb82336 gb82336 rfl rfl qw_1427 qw_1428 qw_1429 qw_44 qw_1430 ⟨rfl, by decide +kernel, by decide +kernel, by decide +kernel⟩ ⟨Nat.le_of_ble_eq_true rfl, Nat.le_of_ble_eq_true rfl⟩ hl rfl rfl (Nat.le_of_ble_eq_true rfl) dX11_years_59 ⟨Nat.le_of_ble_eq_true rfl, Nat.le_of_ble_eq_true rfl⟩ (fun F H locs hT hz82338 => ?_)
          have yz82338 := hz82338
          have hv82319 := (yz82338.1 _ 2 (Or.inr (by decide)) (Or.inr (by decide)) (Or.inl (by rw [g0]; decide)) (Or.inr (by decide))).trans hv82319
          have hv82328 := (yz82338.1 _ 5 (Or.inr (by decide)) (Or.inr (by decide)) (Or.inr (by decide)) (Or.inr (by decide))).trans hv82328
          have hv82335 := (yz82338.1 _ 12 (Or.inr (by decide)) (Or.inr (by decide)) (Or.inr (by decide)) (Or.inr (by decide))).trans hv82335
          have hfr : (∀ b j : Nat, (tag b ≠ 19 ∨ j ≠ 0) → (tag b ≠ 19 ∨ j ≠ 1) → (tag b ≠ 23 ∨ j ≠ 2) → (tag b ≠ 23 ∨ j ≠ 3) → (tag b ≠ 26 ∨ j ≠ 13) → fld F b j = fld Fo b j) ∧ EF tag F Fo := ⟨fun b j n19_0 n19_1 n23_2 n23_3 n26_13 => (yz82338.1 b j n19_0 n19_1 n23_2 n23_3).trans (hfr.1 b j n19_0 n19_1 n23_2 n23_3 n26_13), fun b j hb => (yz82338.2 b j hb).trans (hfr.2 b j hb)⟩
          refine lv_iconst (v := 0) hx hb dX11_years_62 (by decide) ?_
          refine lv_istore_n (lv' := [(2, .int 0), (0, .ref p0), (1, .int p1)]) hx hb dX11_years_63 rfl hl (by decide) rfl (fun ls hl => ?_)
          have kk82339 : (0 : Int32).toInt = 0 := by decide
          exact K64 21 0 z82320 _ _ _ _ (by omega) (by decide) (by omega) (by omega) hT hfr hv82319 (lv_sub hl [1, 2, 0] rfl)
        · have w82340 := cv_nle (rfl : z82332.toInt = z82332.toInt) (by decide : (999 : Int32).toInt = 999) c82333
          refine lv_aload_n hx hb dX11_years_45 rfl (lv_at hl 0 rfl) ?_
          refine lv_iconst (v := 3) hx hb dX11_years_46 (by decide) ?_
          refine t_cVi (n := 1) (C := RX11) (T := TX11) (N := 16) (As := [.int 3]) (rest := []) X hT (kt63_X11_refuse l G tag L F hT.2.2.2 p0 3 m0 g0) m0 g0 rfl rfl qw_152 qw_153 qw_154 qw_2 qw_155 ⟨rfl, by decide +kernel, by decide +kernel, by decide +kernel⟩ ⟨Nat.le_of_ble_eq_true rfl, Nat.le_of_ble_eq_true rfl⟩ hl rfl rfl (Nat.le_of_ble_eq_true rfl) dX11_years_47 ⟨Nat.le_of_ble_eq_true rfl, Nat.le_of_ble_eq_true rfl⟩ (fun z82341 F H locs hT hz82341 => ?_)
          obtain ⟨hz82341, yz82341⟩ := hz82341
          have hv82319 := (yz82341.1 _ 2 (Or.inr (by decide))).trans hv82319
          have hv82328 := (yz82341.1 _ 5 (Or.inr (by decide))).trans hv82328
          have hv82330 := (yz82341.1 _ 0 (Or.inr (by decide))).trans hv82330
          have hfr : (∀ b j : Nat, (tag b ≠ 19 ∨ j ≠ 0) → (tag b ≠ 19 ∨ j ≠ 1) → (tag b ≠ 23 ∨ j ≠ 2) → (tag b ≠ 23 ∨ j ≠ 3) → (tag b ≠ 26 ∨ j ≠ 13) → fld F b j = fld Fo b j) ∧ EF tag F Fo := ⟨fun b j n19_0 n19_1 n23_2 n23_3 n26_13 => (yz82341.1 b j n26_13).trans (hfr.1 b j n19_0 n19_1 n23_2 n23_3 n26_13), fun b j hb => (yz82341.2 b j hb).trans (hfr.2 b j hb)⟩
          exact t_iret hQ X hT (⟨rg_all _, hfr⟩) (Nat.le_of_ble_eq_true rfl) (Nat.le_of_ble_eq_true rfl) dX11_years_50
      · have w82342 := cv_nle (rfl : p1.toInt = p1.toInt) (by decide : (20 : Int32).toInt = 20) c82326
        exact K24 z82320 _ _ _ _ (by omega) hT hfr hv82319 (lv_sub hl [0, 1] rfl)
  · have w82343 := cv_eq (rfl : z82320.toInt = z82320.toInt) (by decide : (0 : Int32).toInt = 0) c82321
    refine lv_aload_n hx hb dX11_years_7 rfl (lv_at hl 0 rfl) ?_
    refine lv_iconst (v := 1) hx hb dX11_years_8 (by decide) ?_
    refine t_cVi (n := 1) (C := RX11) (T := TX11) (N := 16) (As := [.int 1]) (rest := []) X hT (kt63_X11_refuse l G tag L F hT.2.2.2 p0 1 m0 g0) m0 g0 rfl rfl qw_152 qw_153 qw_154 qw_2 qw_155 ⟨rfl, by decide +kernel, by decide +kernel, by decide +kernel⟩ ⟨Nat.le_of_ble_eq_true rfl, Nat.le_of_ble_eq_true rfl⟩ hl rfl rfl (Nat.le_of_ble_eq_true rfl) dX11_years_9 ⟨Nat.le_of_ble_eq_true rfl, Nat.le_of_ble_eq_true rfl⟩ (fun z82344 F H locs hT hz82344 => ?_)
    obtain ⟨hz82344, yz82344⟩ := hz82344
    have hv82319 := (yz82344.1 _ 2 (Or.inr (by decide))).trans hv82319
    have hfr : (∀ b j : Nat, (tag b ≠ 19 ∨ j ≠ 0) → (tag b ≠ 19 ∨ j ≠ 1) → (tag b ≠ 23 ∨ j ≠ 2) → (tag b ≠ 23 ∨ j ≠ 3) → (tag b ≠ 26 ∨ j ≠ 13) → fld F b j = fld Fo b j) ∧ EF tag F Fo := ⟨fun b j n19_0 n19_1 n23_2 n23_3 n26_13 => (yz82344.1 b j n26_13).trans (hfr.1 b j n19_0 n19_1 n23_2 n23_3 n26_13), fun b j hb => (yz82344.2 b j hb).trans (hfr.2 b j hb)⟩
    exact t_iret hQ X hT (⟨rg_all _, hfr⟩) (Nat.le_of_ble_eq_true rfl) (Nat.le_of_ble_eq_true rfl) dX11_years_12
