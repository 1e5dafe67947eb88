set_option maxHeartbeats 4000000 in
set_option maxRecDepth 100000 in
theorem kt160_X11_latest (l : Launch) (G : KG) (tag : Nat → Nat) (L : List Nat) (Fo : Nat → va_E) (ho : okT G ttC tag L Fo) (p0 : Nat) (p1 : Int32) (m0 : p0 ∈ L) (g0 : tag p0 = 26) : TMi l yX11_latest cX11_latest 2 (some .int) { frames := 4, cells := 0, slots := 0, locals := 86 } G ttC tag L Fo [.ref p0, .int p1] (fun r F1 => ((-2147483648) ≤ r.toInt ∧ r.toInt ≤ 2147483647) ∧ ((∀ b j : Nat, (tag b ≠ 22 ∨ j ≠ 2) → (tag b ≠ 26 ∨ j ≠ 13) → fld F1 b j = fld Fo b j) ∧ EF tag F1 Fo)) := by
  refine t_bodyi (y := yX11_latest) (cd := cX11_latest) (mL := 2) (rt := (some .int)) (rm := { frames := 4, cells := 0, slots := 0, locals := 86 }) (av := [.ref p0, .int p1]) (by decide) (Nat.le_of_ble_eq_true rfl) ho ?_
  intro p e s m args below meth c ls A Q hQ X hT hl
  have hx := X.1.1
  have hb := X.1.2.1
  have hl : lv_has ls 2 [(0, .ref p0), (1, .int p1)] := hl
  have rp1 := rg_all p1
  obtain ⟨F, hFo⟩ : ∃ F : Nat → va_E, F = Fo := ⟨_, rfl⟩
  rw [← hFo] at hT
  have hfr : (∀ b j : Nat, (tag b ≠ 22 ∨ j ≠ 2) → (tag b ≠ 26 ∨ j ≠ 13) → fld F b j = fld Fo b j) ∧ EF tag F Fo := by
    rw [hFo]
    exact ⟨by intros; rfl, fun _ _ _ => rfl⟩
  have K57 : ∀ (z69133 : Int32) (b69134 : Nat) (F : Nat → va_E) (H : Heap) (locs : List Loc) (ls : Array Slot), (b69134 ∈ L) → (tag b69134 = 26) → (0 ≤ p1.toInt ∧ p1.toInt ≤ 5) → TH G ttC A s tag L F H locs → ((∀ b j : Nat, (tag b ≠ 22 ∨ j ≠ 2) → (tag b ≠ 26 ∨ j ≠ 13) → fld F b j = fld Fo b j) ∧ EF tag F Fo) → lv_has ls 2 [(0, .ref p0), (1, .int p1)] → W p l e { frames := 4, cells := 0, slots := 0, locals := 86 } s m args below meth c H locs 0 0 Q (F0 m 57 ls [.int z69133, .ref b69134]) := by
    intro z69133 b69134 F H locs ls mb69134 gb69134 r9s69132 hT hfr hl
    have rz69133 := rg_all z69133
    refine t_cVi (n := 1) (C := RX11) (T := TX11) (N := 16) (As := [.int z69133]) (rest := []) X hT (kt56_X11_answer l G tag L F hT.2.2.2 b69134 z69133 mb69134 gb69134) mb69134 gb69134 rfl rfl qw_463 qw_464 qw_465 qw_2 qw_466 ⟨rfl, by decide +kernel, by decide +kernel, by decide +kernel⟩ ⟨Nat.le_of_ble_eq_true rfl, Nat.le_of_ble_eq_true rfl⟩ hl rfl rfl (Nat.le_of_ble_eq_true rfl) dX11_latest_57 ⟨Nat.le_of_ble_eq_true rfl, Nat.le_of_ble_eq_true rfl⟩ (fun z69135 F H locs hT hz69135 => ?_)
    obtain ⟨hz69135, yz69135⟩ := hz69135
    have hfr : (∀ b j : Nat, (tag b ≠ 22 ∨ j ≠ 2) → (tag b ≠ 26 ∨ j ≠ 13) → fld F b j = fld Fo b j) ∧ EF tag F Fo := ⟨fun b j n22_2 n26_13 => (yz69135.1 b j n26_13).trans (hfr.1 b j n22_2 n26_13), fun b j hb => (yz69135.2 b j hb).trans (hfr.2 b j hb)⟩
    exact t_iret hQ X hT (⟨rg_all _, hfr⟩) (Nat.le_of_ble_eq_true rfl) (Nat.le_of_ble_eq_true rfl) dX11_latest_60
  refine lv_aload_n hx hb dX11_latest_0 rfl (lv_at hl 0 rfl) ?_
  refine lv_iload_n hx hb dX11_latest_1 rfl (lv_at hl 1 rfl) ?_
  refine t_cVi (n := 1) (C := RX11) (T := TX11) (N := 16) (As := [.int p1]) (rest := []) X hT (kt92_X11_isWall l G tag L F hT.2.2.2 p0 p1 m0 g0) m0 g0 rfl rfl qw_1379 qw_1380 qw_1381 qw_2 qw_1382 ⟨rfl, by decide +kernel, by decide +kernel, by decide +kernel⟩ ⟨Nat.le_of_ble_eq_true rfl, Nat.le_of_ble_eq_true rfl⟩ hl rfl rfl (Nat.le_of_ble_eq_true rfl) dX11_latest_2 ⟨Nat.le_of_ble_eq_true rfl, Nat.le_of_ble_eq_true rfl⟩ (fun z69136 F9 H locs hT hz69136 => ?_)
  obtain ⟨fz69136, hz69136⟩ := hz69136
  rw [fz69136] at hT
  obtain ⟨hz69136, iz69136⟩ := hz69136
  refine lv_if_ne (tgt := 14) hx hb dX11_latest_5 (by decide) (fun c69137 => ?_) (fun c69137 => ?_)
  · have w69138 := cv_ne (rfl : z69136.toInt = z69136.toInt) (by decide : (0 : Int32).toInt = 0) c69137
    have w69139 := (fun h => (iz69136 h)) (by omega)
    refine lv_aload_n hx hb dX11_latest_14 rfl (lv_at hl 0 rfl) ?_
    refine t_get (C := RX11) (T := TX11) (N := 16) X hT m0 g0 rfl rfl 11 (by decide) qw_41 inlX11 rfl dX11_latest_15 (fun v69140 hv69140 ov69140 => ?_)
    obtain ⟨b69141, rfl, mb69141, gb69141⟩ := okV_r ov69140
    have gb69141 : tag b69141 = 22 := tg_of gb69141
    refine lv_aload_n hx hb dX11_latest_18 rfl (lv_at hl 0 rfl) ?_
    refine t_get (C := RX11) (T := TX11) (N := 16) X hT m0 g0 rfl rfl 3 (by decide) qw_18 inlX11 rfl dX11_latest_19 (fun v69142 hv69142 ov69142 => ?_)
    obtain ⟨b69143, rfl, mb69143, gb69143⟩ := okV_r ov69142
    have gb69143 : tag b69143 = 18 := tg_of gb69143
    refine lv_aload_n hx hb dX11_latest_22 rfl (lv_at hl 0 rfl) ?_
    refine t_get (C := RX11) (T := TX11) (N := 16) X hT m0 g0 rfl rfl 5 (by decide) qw_23 inlX11 rfl dX11_latest_23 (fun v69144 hv69144 ov69144 => ?_)
    obtain ⟨b69145, rfl, mb69145, gb69145⟩ := okV_r ov69144
    have gb69145 : tag b69145 = 19 := tg_of gb69145
    refine t_get (C := RX7) (T := TX7) (N := 7) X hT mb69145 gb69145 rfl rfl 0 (by decide) qw_1225 inlX7 rfl dX11_latest_26 (fun v69146 hv69146 ov69146 => ?_)
    obtain ⟨z69147, rfl, rz69147⟩ := okV_i ov69146
    refine t_cVv (n := 2) (C := RX9) (T := TX9) (N := 6) (As := [.ref b69143, .int z69147]) (rest := []) X hT (kt159_X9_lookAtAll l G tag L F hT.2.2.2 b69141 b69143 z69147 mb69141 gb69141 mb69143 gb69143) mb69141 gb69141 rfl rfl qw_1333 qw_1334 qw_1335 qw_40 qw_1336 ⟨rfl, by decide +kernel, by decide +kernel, by decide +kernel⟩ ⟨Nat.le_of_ble_eq_true rfl, Nat.le_of_ble_eq_true rfl⟩ hl rfl rfl (Nat.le_of_ble_eq_true rfl) dX11_latest_29 ⟨Nat.le_of_ble_eq_true rfl, Nat.le_of_ble_eq_true rfl⟩ (fun F H locs hT hz69148 => ?_)
    have yz69148 := hz69148
    have hv69140 := (yz69148.1 _ 11 (Or.inr (by decide))).trans hv69140
    have hv69142 := (yz69148.1 _ 3 (Or.inr (by decide))).trans hv69142
    have hv69144 := (yz69148.1 _ 5 (Or.inr (by decide))).trans hv69144
    have hv69146 := (yz69148.1 _ 0 (Or.inr (by decide))).trans hv69146
    have hfr : (∀ b j : Nat, (tag b ≠ 22 ∨ j ≠ 2) → (tag b ≠ 26 ∨ j ≠ 13) → fld F b j = fld Fo b j) ∧ EF tag F Fo := ⟨fun b j n22_2 n26_13 => (yz69148.1 b j n22_2).trans (hfr.1 b j n22_2 n26_13), fun b j hb => (yz69148.2 b j hb).trans (hfr.2 b j hb)⟩
    refine lv_aload_n hx hb dX11_latest_32 rfl (lv_at hl 0 rfl) ?_
    refine lv_aload_n hx hb dX11_latest_33 rfl (lv_at hl 0 rfl) ?_
    refine t_get (C := RX11) (T := TX11) (N := 16) X hT m0 g0 rfl rfl 11 (by decide) qw_41 inlX11 rfl dX11_latest_34 (fun v69149 hv69149 ov69149 => ?_)
    obtain rfl : v69149 = .ref b69141 := hv69149.symm.trans hv69140
    refine t_get (C := RX9) (T := TX9) (N := 6) X hT mb69141 gb69141 rfl rfl 2 (by decide) qw_1332 inlX9 rfl dX11_latest_37 (fun v69150 hv69150 ov69150 => ?_)
    obtain ⟨z69151, rfl, rz69151⟩ := okV_i ov69150
    refine lv_if_ne (tgt := 48) hx hb dX11_latest_40 (by decide) (fun c69152 => ?_) (fun c69152 => ?_)
    · have w69153 := cv_ne (rfl : z69151.toInt = z69151.toInt) (by decide : (0 : Int32).toInt = 0) c69152
      refine lv_aload_n hx hb dX11_latest_48 rfl (lv_at hl 0 rfl) ?_
      refine t_get (C := RX11) (T := TX11) (N := 16) X hT m0 g0 rfl rfl 11 (by decide) qw_41 inlX11 rfl dX11_latest_49 (fun v69154 hv69154 ov69154 => ?_)
      obtain rfl : v69154 = .ref b69141 := hv69154.symm.trans hv69140
      refine t_get (C := RX9) (T := TX9) (N := 6) X hT mb69141 gb69141 rfl rfl 4 (by decide) qw_1409 inlX9 rfl dX11_latest_52 (fun v69155 hv69155 ov69155 => ?_)
      obtain ⟨b69156, rfl, mb69156, gb69156⟩ := okV_r ov69155
      have gb69156 : tag b69156 = 7 := tg_of gb69156
      refine lv_iload_n hx hb dX11_latest_55 rfl (lv_at hl 1 rfl) ?_
      refine t_ild X hT mb69156 gb69156 rfl (by omega) dX11_latest_56 (fun z69157 vz69157 rz69157 => ?_)
      have rz69157 : (-2147483648) ≤ z69157.toInt ∧ z69157.toInt ≤ 2147483647 := rz69157
      exact K57 z69157 p0 _ _ _ _ m0 g0 (by omega) hT hfr  (lv_sub hl [0, 1] rfl)
    · have w69158 := cv_eq (rfl : z69151.toInt = z69151.toInt) (by decide : (0 : Int32).toInt = 0) c69152
      refine lv_bipush (v := (-2)) hx hb dX11_latest_43 (by decide) ?_
      refine lv_goto (tgt := 57) hx hb dX11_latest_45 (by decide) ?_
      exact K57 (-2) p0 _ _ _ _ m0 g0 (by omega) hT hfr  (lv_sub hl [0, 1] rfl)
  · have w69159 := cv_eq (rfl : z69136.toInt = z69136.toInt) (by decide : (0 : Int32).toInt = 0) c69137
    refine lv_aload_n hx hb dX11_latest_8 rfl (lv_at hl 0 rfl) ?_
    refine lv_iconst (v := 1) hx hb dX11_latest_9 (by decide) ?_
    refine t_cVi (n := 1) (C := RX11) (T := TX11) (N := 16) (As := [.int 1]) (rest := []) X hT (kt63_X11_refuse l G tag L F hT.2.2.2 p0 1 m0 g0) m0 g0 rfl rfl qw_152 qw_153 qw_154 qw_2 qw_155 ⟨rfl, by decide +kernel, by decide +kernel, by decide +kernel⟩ ⟨Nat.le_of_ble_eq_true rfl, Nat.le_of_ble_eq_true rfl⟩ hl rfl rfl (Nat.le_of_ble_eq_true rfl) dX11_latest_10 ⟨Nat.le_of_ble_eq_true rfl, Nat.le_of_ble_eq_true rfl⟩ (fun z69160 F H locs hT hz69160 => ?_)
    obtain ⟨hz69160, yz69160⟩ := hz69160
    have hfr : (∀ b j : Nat, (tag b ≠ 22 ∨ j ≠ 2) → (tag b ≠ 26 ∨ j ≠ 13) → fld F b j = fld Fo b j) ∧ EF tag F Fo := ⟨fun b j n22_2 n26_13 => (yz69160.1 b j n26_13).trans (hfr.1 b j n22_2 n26_13), fun b j hb => (yz69160.2 b j hb).trans (hfr.2 b j hb)⟩
    exact t_iret hQ X hT (⟨rg_all _, hfr⟩) (Nat.le_of_ble_eq_true rfl) (Nat.le_of_ble_eq_true rfl) dX11_latest_13
set_option maxHeartbeats 4000000 in
set_option maxRecDepth 100000 in
theorem kt161_X11_light (l : Launch) (G : KG) (tag : Nat → Nat) (L : List Nat) (Fo : Nat → va_E) (ho : okT G ttC tag L Fo) (p0 : Nat) (p1 : Int32) (p2 : Int32) (m0 : p0 ∈ L) (g0 : tag p0 = 26) : TMi l yX11_light cX11_light 3 (some .int) { frames := 2, cells := 0, slots := 0, locals := 43 } G ttC tag L Fo [.ref p0, .int p1, .int p2] (fun r F1 => ((-2147483648) ≤ r.toInt ∧ r.toInt ≤ 2147483647) ∧ ((∀ b j : Nat, (tag b ≠ 26 ∨ j ≠ 13) → fld F1 b j = fld Fo b j) ∧ EF tag F1 Fo)) := by
  refine t_bodyi (y := yX11_light) (cd := cX11_light) (mL := 3) (rt := (some .int)) (rm := { frames := 2, cells := 0, slots := 0, locals := 43 }) (av := [.ref p0, .int p1, .int p2]) (by decide) (Nat.le_of_ble_eq_true rfl) ho ?_
  intro p e s m args below meth c ls A Q hQ X hT hl
  have hx := X.1.1
  have hb := X.1.2.1
  have hl : lv_has ls 3 [(0, .ref p0), (1, .int p1), (2, .int p2)] := hl
  have rp1 := rg_all p1
  have rp2 := rg_all p2
  obtain ⟨F, hFo⟩ : ∃ F : Nat → va_E, F = Fo := ⟨_, rfl⟩
  rw [← hFo] at hT
  have hfr : (∀ b j : Nat, (tag b ≠ 26 ∨ j ≠ 13) → fld F b j = fld Fo b j) ∧ EF tag F Fo := by
    rw [hFo]
    exact ⟨by intros; rfl, fun _ _ _ => rfl⟩
  refine lv_aload_n hx hb dX11_light_0 rfl (lv_at hl 0 rfl) ?_
  refine lv_iload_n hx hb dX11_light_1 rfl (lv_at hl 1 rfl) ?_
  refine lv_iload_n hx hb dX11_light_2 rfl (lv_at hl 2 rfl) ?_
  refine t_cVi (n := 2) (C := RX11) (T := TX11) (N := 16) (As := [.int p1, .int p2]) (rest := []) X hT (kt62_X11_isRoom l G tag L F hT.2.2.2 p0 p1 p2 m0 g0) m0 g0 rfl rfl qw_827 qw_828 qw_829 qw_2 qw_830 ⟨rfl, by decide +kernel, by decide +kernel, by decide +kernel⟩ ⟨Nat.le_of_ble_eq_true rfl, Nat.le_of_ble_eq_true rfl⟩ hl rfl rfl (Nat.le_of_ble_eq_true rfl) dX11_light_3 ⟨Nat.le_of_ble_eq_true rfl, Nat.le_of_ble_eq_true rfl⟩ (fun z69397 F9 H locs hT hz69397 => ?_)
  obtain ⟨fz69397, hz69397⟩ := hz69397
  rw [fz69397] at hT
  obtain ⟨hz69397, iz69397⟩ := hz69397
  refine lv_if_ne (tgt := 15) hx hb dX11_light_6 (by decide) (fun c69398 => ?_) (fun c69398 => ?_)
  · have w69399 := cv_ne (rfl : z69397.toInt = z69397.toInt) (by decide : (0 : Int32).toInt = 0) c69398
    have w69400 := (fun h => (iz69397 h).1) (by omega)
    have w69401 := (fun h => (iz69397 h).2) (by omega)
    refine lv_aload_n hx hb dX11_light_15 rfl (lv_at hl 0 rfl) ?_
    refine lv_iconst (v := 0) hx hb dX11_light_16 (by decide) ?_
    refine lv_bipush (v := 9) hx hb dX11_light_17 (by decide) ?_
    refine lv_iconst (v := 3) hx hb dX11_light_19 (by decide) ?_
    refine lv_aload_n hx hb dX11_light_20 rfl (lv_at hl 0 rfl) ?_
    refine t_get (C := RX11) (T := TX11) (N := 16) X hT m0 g0 rfl rfl 5 (by decide) qw_23 inlX11 rfl dX11_light_21 (fun v69402 hv69402 ov69402 => ?_)
    obtain ⟨b69403, rfl, mb69403, gb69403⟩ := okV_r ov69402
    have gb69403 : tag b69403 = 19 := tg_of gb69403
    refine t_get (C := RX7) (T := TX7) (N := 7) X hT mb69403 gb69403 rfl rfl 2 (by decide) qw_766 inlX7 rfl dX11_light_24 (fun v69404 hv69404 ov69404 => ?_)
    obtain ⟨b69405, rfl, mb69405, gb69405⟩ := okV_r ov69404
    have gb69405 : tag b69405 = 8 := tg_of gb69405
    refine lv_iload_n hx hb dX11_light_27 rfl (lv_at hl 1 rfl) ?_
    refine t_ild X hT mb69405 gb69405 rfl (by omega) dX11_light_28 (fun z69406 vz69406 rz69406 => ?_)
    have rz69406 : 0 ≤ z69406.toInt ∧ z69406.toInt ≤ 6 := rz69406
    refine lv_iload_n hx hb dX11_light_29 rfl (lv_at hl 2 rfl) ?_
    refine lv_isub hx hb dX11_light_30 ?_
    refine lv_topi (fun z69407 ez69407 => ?_)
    have hz69407 : z69407.toInt = z69406.toInt - p2.toInt := ar_sub ez69407 (rfl : z69406.toInt = z69406.toInt) (rfl : p2.toInt = p2.toInt) (by omega) (by omega)
    have rz69407 : (-6) ≤ z69407.toInt ∧ z69407.toInt ≤ 6 := by omega
    refine lv_imul hx hb dX11_light_31 ?_
    refine lv_topi (fun z69408 ez69408 => ?_)
    have hz69408 : z69408.toInt = 3 * z69407.toInt := ar_mul ez69408 (by decide : (3 : Int32).toInt = 3) (rfl : z69407.toInt = z69407.toInt) (by omega) (by omega)
    have rz69408 : (-18) ≤ z69408.toInt ∧ z69408.toInt ≤ 18 := by omega
    refine lv_isub hx hb dX11_light_32 ?_
    refine lv_topi (fun z69409 ez69409 => ?_)
    have hz69409 : z69409.toInt = 9 - z69408.toInt := ar_sub ez69409 (by decide : (9 : Int32).toInt = 9) (rfl : z69408.toInt = z69408.toInt) (by omega) (by omega)
    have rz69409 : (-9) ≤ z69409.toInt ∧ z69409.toInt ≤ 27 := by omega
    refine t_mmax X hl qw_848 qw_849 qw_850 qw_851 (Nat.le_of_ble_eq_true rfl) (Nat.le_of_ble_eq_true rfl) (Nat.le_of_ble_eq_true rfl) (Nat.le_of_ble_eq_true rfl) dX11_light_33 (fun z69410 ez69410 => ?_)
    have hz69410 := mmax_e ez69410 (by decide : (0 : Int32).toInt = 0) (rfl : z69409.toInt = z69409.toInt)
    refine t_cVi (n := 1) (C := RX11) (T := TX11) (N := 16) (As := [.int z69410]) (rest := []) X hT (kt56_X11_answer l G tag L F hT.2.2.2 p0 z69410 m0 g0) m0 g0 rfl rfl qw_463 qw_464 qw_465 qw_2 qw_466 ⟨rfl, by decide +kernel, by decide +kernel, by decide +kernel⟩ ⟨Nat.le_of_ble_eq_true rfl, Nat.le_of_ble_eq_true rfl⟩ hl rfl rfl (Nat.le_of_ble_eq_true rfl) dX11_light_36 ⟨Nat.le_of_ble_eq_true rfl, Nat.le_of_ble_eq_true rfl⟩ (fun z69411 F H locs hT hz69411 => ?_)
    obtain ⟨hz69411, yz69411⟩ := hz69411
    have hv69402 := (yz69411.1 _ 5 (Or.inr (by decide))).trans hv69402
    have hv69404 := (yz69411.1 _ 2 (Or.inr (by decide))).trans hv69404
    have hfr : (∀ b j : Nat, (tag b ≠ 26 ∨ j ≠ 13) → fld F b j = fld Fo b j) ∧ EF tag F Fo := ⟨fun b j n26_13 => (yz69411.1 b j n26_13).trans (hfr.1 b j n26_13), fun b j hb => (yz69411.2 b j hb).trans (hfr.2 b j hb)⟩
    exact t_iret hQ X hT (⟨rg_all _, hfr⟩) (Nat.le_of_ble_eq_true rfl) (Nat.le_of_ble_eq_true rfl) dX11_light_39
  · have w69412 := cv_eq (rfl : z69397.toInt = z69397.toInt) (by decide : (0 : Int32).toInt = 0) c69398
    refine lv_aload_n hx hb dX11_light_9 rfl (lv_at hl 0 rfl) ?_
    refine lv_iconst (v := 1) hx hb dX11_light_10 (by decide) ?_
    refine t_cVi (n := 1) (C := RX11) (T := TX11) (N := 16) (As := [.int 1]) (rest := []) X hT (kt63_X11_refuse l G tag L F hT.2.2.2 p0 1 m0 g0) m0 g0 rfl rfl qw_152 qw_153 qw_154 qw_2 qw_155 ⟨rfl, by decide +kernel, by decide +kernel, by decide +kernel⟩ ⟨Nat.le_of_ble_eq_true rfl, Nat.le_of_ble_eq_true rfl⟩ hl rfl rfl (Nat.le_of_ble_eq_true rfl) dX11_light_11 ⟨Nat.le_of_ble_eq_true rfl, Nat.le_of_ble_eq_true rfl⟩ (fun z69413 F H locs hT hz69413 => ?_)
    obtain ⟨hz69413, yz69413⟩ := hz69413
    have hfr : (∀ b j : Nat, (tag b ≠ 26 ∨ j ≠ 13) → fld F b j = fld Fo b j) ∧ EF tag F Fo := ⟨fun b j n26_13 => (yz69413.1 b j n26_13).trans (hfr.1 b j n26_13), fun b j hb => (yz69413.2 b j hb).trans (hfr.2 b j hb)⟩
    exact t_iret hQ X hT (⟨rg_all _, hfr⟩) (Nat.le_of_ble_eq_true rfl) (Nat.le_of_ble_eq_true rfl) dX11_light_14
set_option maxHeartbeats 4000000 in
set_option maxRecDepth 100000 in
theorem kt162_X11_lock (l : Launch) (G : KG) (tag : Nat → Nat) (L : List Nat) (Fo : Nat → va_E) (ho : okT G ttC tag L Fo) (p0 : Nat) (p1 : Int32) (p2 : Int32) (p3 : Int32) (m0 : p0 ∈ L) (g0 : tag p0 = 26) : TMi l yX11_lock cX11_lock 4 (some .boolean) { frames := 3, cells := 0, slots := 0, locals := 66 } G ttC tag L Fo [.ref p0, .int p1, .int p2, .int p3] (fun r F1 => (0 ≤ r.toInt ∧ r.toInt ≤ 1) ∧ ((∀ b j : Nat, (tag b ≠ 19 ∨ j ≠ 0) → (tag b ≠ 19 ∨ j ≠ 1) → (tag b ≠ 23 ∨ j ≠ 2) → (tag b ≠ 23 ∨ j ≠ 3) → (tag b ≠ 26 ∨ j ≠ 13) → fld F1 b j = fld Fo b j) ∧ EF tag F1 Fo)) := by
  refine t_bodyi (y := yX11_lock) (cd := cX11_lock) (mL := 4) (rt := (some .boolean)) (rm := { frames := 3, cells := 0, slots := 0, locals := 66 }) (av := [.ref p0, .int p1, .int p2, .int p3]) (by decide) (Nat.le_of_ble_eq_true rfl) ho ?_
  intro p e s m args below meth c ls A Q hQ X hT hl
  have hx := X.1.1
  have hb := X.1.2.1
  have hl : lv_has ls 4 [(0, .ref p0), (1, .int p1), (2, .int p2), (3, .int p3)] := hl
  have rp1 := rg_all p1
  have rp2 := rg_all p2
  have rp3 := rg_all p3
  obtain ⟨F, hFo⟩ : ∃ F : Nat → va_E, F = Fo := ⟨_, rfl⟩
  rw [← hFo] at hT
  have hfr : (∀ b j : Nat, (tag b ≠ 19 ∨ j ≠ 0) → (tag b ≠ 19 ∨ j ≠ 1) → (tag b ≠ 23 ∨ j ≠ 2) → (tag b ≠ 23 ∨ j ≠ 3) → (tag b ≠ 26 ∨ j ≠ 13) → fld F b j = fld Fo b j) ∧ EF tag F Fo := by
    rw [hFo]
    exact ⟨by intros; rfl, fun _ _ _ => rfl⟩
  have K25 : ∀  (F : Nat → va_E) (H : Heap) (locs : List Loc) (ls : Array Slot), (0 ≤ p1.toInt ∧ p1.toInt ≤ 3) → (1 ≤ p2.toInt ∧ p2.toInt ≤ 6) → TH G ttC A s tag L F H locs → ((∀ b j : Nat, (tag b ≠ 19 ∨ j ≠ 0) → (tag b ≠ 19 ∨ j ≠ 1) → (tag b ≠ 23 ∨ j ≠ 2) → (tag b ≠ 23 ∨ j ≠ 3) → (tag b ≠ 26 ∨ j ≠ 13) → fld F b j = fld Fo b j) ∧ EF tag F Fo) → lv_has ls 4 [(0, .ref p0), (1, .int p1), (2, .int p2), (3, .int p3)] → W p l e { frames := 3, cells := 0, slots := 0, locals := 66 } s m args below meth c H locs 0 0 Q (F0 m 25 ls []) := by
    intro F H locs ls r9s69733 r9s69734 hT hfr hl
    refine lv_aload_n hx hb dX11_lock_25 rfl (lv_at hl 0 rfl) ?_
    refine lv_iconst (v := 2) hx hb dX11_lock_26 (by decide) ?_
    refine t_cVi (n := 1) (C := RX11) (T := TX11) (N := 16) (As := [.int 2]) (rest := []) X hT (kt58_X11_no l G tag L F hT.2.2.2 p0 2 m0 g0) m0 g0 rfl rfl qw_1454 qw_1455 qw_1456 qw_2 qw_1457 ⟨rfl, by decide +kernel, by decide +kernel, by decide +kernel⟩ ⟨Nat.le_of_ble_eq_true rfl, Nat.le_of_ble_eq_true rfl⟩ hl rfl rfl (Nat.le_of_ble_eq_true rfl) dX11_lock_27 ⟨Nat.le_of_ble_eq_true rfl, Nat.le_of_ble_eq_true rfl⟩ (fun z69735 F H locs hT hz69735 => ?_)
    obtain ⟨hz69735, yz69735⟩ := hz69735
    have hfr : (∀ b j : Nat, (tag b ≠ 19 ∨ j ≠ 0) → (tag b ≠ 19 ∨ j ≠ 1) → (tag b ≠ 23 ∨ j ≠ 2) → (tag b ≠ 23 ∨ j ≠ 3) → (tag b ≠ 26 ∨ j ≠ 13) → fld F b j = fld Fo b j) ∧ EF tag F Fo := ⟨fun b j n19_0 n19_1 n23_2 n23_3 n26_13 => (yz69735.1 b j n26_13).trans (hfr.1 b j n19_0 n19_1 n23_2 n23_3 n26_13), fun b j hb => (yz69735.2 b j hb).trans (hfr.2 b j hb)⟩
    exact t_zret hQ X hT (nar_z (by omega)) (⟨(by omega), hfr⟩) (Nat.le_of_ble_eq_true rfl) (Nat.le_of_ble_eq_true rfl) dX11_lock_30
  refine lv_aload_n hx hb dX11_lock_0 rfl (lv_at hl 0 rfl) ?_
  refine lv_iload_n hx hb dX11_lock_1 rfl (lv_at hl 1 rfl) ?_
  refine lv_iload_n hx hb dX11_lock_2 rfl (lv_at hl 2 rfl) ?_
  refine t_cVi (n := 2) (C := RX11) (T := TX11) (N := 16) (As := [.int p1, .int p2]) (rest := []) X hT (kt70_X11_isSkin l G tag L F hT.2.2.2 p0 p1 p2 m0 g0) m0 g0 rfl rfl qw_823 qw_824 qw_825 qw_2 qw_826 ⟨rfl, by decide +kernel, by decide +kernel, by decide +kernel⟩ ⟨Nat.le_of_ble_eq_true rfl, Nat.le_of_ble_eq_true rfl⟩ hl rfl rfl (Nat.le_of_ble_eq_true rfl) dX11_lock_3 ⟨Nat.le_of_ble_eq_true rfl, Nat.le_of_ble_eq_true rfl⟩ (fun z69736 F9 H locs hT hz69736 => ?_)
  obtain ⟨fz69736, hz69736⟩ := hz69736
  rw [fz69736] at hT
  obtain ⟨hz69736, iz69736⟩ := hz69736
  refine lv_if_ne (tgt := 15) hx hb dX11_lock_6 (by decide) (fun c69737 => ?_) (fun c69737 => ?_)
  · have w69738 := cv_ne (rfl : z69736.toInt = z69736.toInt) (by decide : (0 : Int32).toInt = 0) c69737
    have w69739 := (fun h => (iz69736 h).1) (by omega)
    have w69740 := (fun h => (iz69736 h).2) (by omega)
    refine lv_iload_n hx hb dX11_lock_15 rfl (lv_at hl 3 rfl) ?_
    refine lv_if_lt (tgt := 25) hx hb dX11_lock_16 (by decide) (fun c69741 => ?_) (fun c69741 => ?_)
    · have w69742 := cv_lt (rfl : p3.toInt = p3.toInt) (by decide : (0 : Int32).toInt = 0) c69741
      exact K25  _ _ _ _ (by omega) (by omega) hT hfr  (lv_sub hl [0, 1, 2, 3] rfl)
    · have w69743 := cv_nlt (rfl : p3.toInt = p3.toInt) (by decide : (0 : Int32).toInt = 0) c69741
      refine lv_iload_n hx hb dX11_lock_19 rfl (lv_at hl 3 rfl) ?_
      refine lv_bipush (v := 99) hx hb dX11_lock_20 (by decide) ?_
      refine lv_icmp_le (tgt := 31) hx hb dX11_lock_22 (by decide) (fun c69744 => ?_) (fun c69744 => ?_)
      · have w69745 := cv_le (rfl : p3.toInt = p3.toInt) (by decide : (99 : Int32).toInt = 99) c69744
        refine lv_aload_n hx hb dX11_lock_31 rfl (lv_at hl 0 rfl) ?_
        refine t_get (C := RX11) (T := TX11) (N := 16) X hT m0 g0 rfl rfl 5 (by decide) qw_23 inlX11 rfl dX11_lock_32 (fun v69746 hv69746 ov69746 => ?_)
        obtain ⟨b69747, rfl, mb69747, gb69747⟩ := okV_r ov69746
        have gb69747 : tag b69747 = 19 := tg_of gb69747
        refine lv_iload_n hx hb dX11_lock_35 rfl (lv_at hl 1 rfl) ?_
        refine lv_iload_n hx hb dX11_lock_36 rfl (lv_at hl 2 rfl) ?_
        refine lv_iconst (v := 3) hx hb dX11_lock_37 (by decide) ?_
        refine t_cVi (n := 3) (C := RX7) (T := TX7) (N := 7) (As := [.int p1, .int p2, .int 3]) (rest := []) X hT (kt15_X7_partOf l G tag L F hT.2.2.2 b69747 p1 p2 3 mb69747 gb69747) mb69747 gb69747 rfl rfl qw_831 qw_778 qw_779 qw_22 qw_780 ⟨rfl, by decide +kernel, by decide +kernel, by decide +kernel⟩ ⟨Nat.le_of_ble_eq_true rfl, Nat.le_of_ble_eq_true rfl⟩ hl rfl rfl (Nat.le_of_ble_eq_true rfl) dX11_lock_38 ⟨Nat.le_of_ble_eq_true rfl, Nat.le_of_ble_eq_true rfl⟩ (fun z69748 F9 H locs hT hz69748 => ?_)
        obtain ⟨fz69748, hz69748⟩ := hz69748
        rw [fz69748] at hT
        refine lv_iload_n hx hb dX11_lock_41 rfl (lv_at hl 3 rfl) ?_
        refine lv_icmp_ne (tgt := 51) hx hb dX11_lock_42 (by decide) (fun c69749 => ?_) (fun c69749 => ?_)
        · have w69750 := cv_ne (rfl : z69748.toInt = z69748.toInt) (rfl : p3.toInt = p3.toInt) c69749
          refine lv_aload_n hx hb dX11_lock_51 rfl (lv_at hl 0 rfl) ?_
          refine t_get (C := RX11) (T := TX11) (N := 16) X hT m0 g0 rfl rfl 12 (by decide) qw_45 inlX11 rfl dX11_lock_52 (fun v69751 hv69751 ov69751 => ?_)
          obtain ⟨b69752, rfl, mb69752, gb69752⟩ := okV_r ov69751
          have gb69752 : tag b69752 = 23 := tg_of gb69752
          refine lv_aload_n hx hb dX11_lock_55 rfl (lv_at hl 0 rfl) ?_
          refine t_get (C := RX11) (T := TX11) (N := 16) X hT m0 g0 rfl rfl 5 (by decide) qw_23 inlX11 rfl dX11_lock_56 (fun v69753 hv69753 ov69753 => ?_)
          obtain rfl : v69753 = .ref b69747 := hv69753.symm.trans hv69746
          refine t_cVv (n := 1) (C := RX2) (T := TX2) (N := 5) (As := [.ref b69747]) (rest := []) X hT (kt66_X2_keep l G tag L F hT.2.2.2 b69752 b69747 mb69752 gb69752 mb69747 gb69747) mb69752 gb69752 rfl rfl qw_1427 qw_1428 qw_1429 qw_44 qw_1430 ⟨rfl, by decide +kernel, by decide +kernel, by decide +kernel⟩ ⟨Nat.le_of_ble_eq_true rfl, Nat.le_of_ble_eq_true rfl⟩ hl rfl rfl (Nat.le_of_ble_eq_true rfl) dX11_lock_59 ⟨Nat.le_of_ble_eq_true rfl, Nat.le_of_ble_eq_true rfl⟩ (fun F H locs hT hz69754 => ?_)
          have yz69754 := hz69754
          have hv69746 := (yz69754.1 _ 5 (Or.inr (by decide)) (Or.inr (by decide)) (Or.inr (by decide)) (Or.inr (by decide))).trans hv69746
          have hv69751 := (yz69754.1 _ 12 (Or.inr (by decide)) (Or.inr (by decide)) (Or.inr (by decide)) (Or.inr (by decide))).trans hv69751
          have hfr : (∀ b j : Nat, (tag b ≠ 19 ∨ j ≠ 0) → (tag b ≠ 19 ∨ j ≠ 1) → (tag b ≠ 23 ∨ j ≠ 2) → (tag b ≠ 23 ∨ j ≠ 3) → (tag b ≠ 26 ∨ j ≠ 13) → fld F b j = fld Fo b j) ∧ EF tag F Fo := ⟨fun b j n19_0 n19_1 n23_2 n23_3 n26_13 => (yz69754.1 b j n19_0 n19_1 n23_2 n23_3).trans (hfr.1 b j n19_0 n19_1 n23_2 n23_3 n26_13), fun b j hb => (yz69754.2 b j hb).trans (hfr.2 b j hb)⟩
          refine lv_aload_n hx hb dX11_lock_62 rfl (lv_at hl 0 rfl) ?_
          refine t_get (C := RX11) (T := TX11) (N := 16) X hT m0 g0 rfl rfl 5 (by decide) qw_23 inlX11 rfl dX11_lock_63 (fun v69755 hv69755 ov69755 => ?_)
          obtain rfl : v69755 = .ref b69747 := hv69755.symm.trans hv69746
          refine lv_iload_n hx hb dX11_lock_66 rfl (lv_at hl 1 rfl) ?_
          refine lv_iload_n hx hb dX11_lock_67 rfl (lv_at hl 2 rfl) ?_
          refine lv_iconst (v := 3) hx hb dX11_lock_68 (by decide) ?_
          refine lv_iload_n hx hb dX11_lock_69 rfl (lv_at hl 3 rfl) ?_
          refine t_cVv (n := 4) (C := RX7) (T := TX7) (N := 7) (As := [.int p1, .int p2, .int 3, .int p3]) (rest := []) X hT (kt16_X7_setPart l G tag L F hT.2.2.2 b69747 p1 p2 3 p3 mb69747 gb69747) mb69747 gb69747 rfl rfl qw_1459 qw_423 qw_424 qw_22 qw_425 ⟨rfl, by decide +kernel, by decide +kernel, by decide +kernel⟩ ⟨Nat.le_of_ble_eq_true rfl, Nat.le_of_ble_eq_true rfl⟩ hl rfl rfl (Nat.le_of_ble_eq_true rfl) dX11_lock_70 ⟨Nat.le_of_ble_eq_true rfl, Nat.le_of_ble_eq_true rfl⟩ (fun F H locs hT hz69756 => ?_)
          have yz69756 := hz69756
          have hv69746 := (yz69756.1 _ 5 ).trans hv69746
          have hv69751 := (yz69756.1 _ 12 ).trans hv69751
          have hfr : (∀ b j : Nat, (tag b ≠ 19 ∨ j ≠ 0) → (tag b ≠ 19 ∨ j ≠ 1) → (tag b ≠ 23 ∨ j ≠ 2) → (tag b ≠ 23 ∨ j ≠ 3) → (tag b ≠ 26 ∨ j ≠ 13) → fld F b j = fld Fo b j) ∧ EF tag F Fo := ⟨fun b j n19_0 n19_1 n23_2 n23_3 n26_13 => (yz69756.1 b j ).trans (hfr.1 b j n19_0 n19_1 n23_2 n23_3 n26_13), fun b j hb => (yz69756.2 b j hb).trans (hfr.2 b j hb)⟩
          refine lv_aload_n hx hb dX11_lock_73 rfl (lv_at hl 0 rfl) ?_
          refine t_cVi (n := 0) (C := RX11) (T := TX11) (N := 16) (As := []) (rest := []) X hT (kt59_X11_yes l G tag L F hT.2.2.2 p0 m0 g0) m0 g0 rfl rfl qw_1460 qw_1461 qw_1462 qw_2 qw_1463 ⟨rfl, by decide +kernel, by decide +kernel, by decide +kernel⟩ ⟨Nat.le_of_ble_eq_true rfl, Nat.le_of_ble_eq_true rfl⟩ hl rfl rfl (Nat.le_of_ble_eq_true rfl) dX11_lock_74 ⟨Nat.le_of_ble_eq_true rfl, Nat.le_of_ble_eq_true rfl⟩ (fun z69757 F H locs hT hz69757 => ?_)
          obtain ⟨hz69757, yz69757⟩ := hz69757
          have hv69746 := (yz69757.1 _ 5 (Or.inr (by decide))).trans hv69746
          have hv69751 := (yz69757.1 _ 12 (Or.inr (by decide))).trans hv69751
          have hfr : (∀ b j : Nat, (tag b ≠ 19 ∨ j ≠ 0) → (tag b ≠ 19 ∨ j ≠ 1) → (tag b ≠ 23 ∨ j ≠ 2) → (tag b ≠ 23 ∨ j ≠ 3) → (tag b ≠ 26 ∨ j ≠ 13) → fld F b j = fld Fo b j) ∧ EF tag F Fo := ⟨fun b j n19_0 n19_1 n23_2 n23_3 n26_13 => (yz69757.1 b j n26_13).trans (hfr.1 b j n19_0 n19_1 n23_2 n23_3 n26_13), fun b j hb => (yz69757.2 b j hb).trans (hfr.2 b j hb)⟩
          exact t_zret hQ X hT (nar_z (by omega)) (⟨(by omega), hfr⟩) (Nat.le_of_ble_eq_true rfl) (Nat.le_of_ble_eq_true rfl) dX11_lock_77
        · have w69758 := cv_eq (rfl : z69748.toInt = z69748.toInt) (rfl : p3.toInt = p3.toInt) c69749
          refine lv_aload_n hx hb dX11_lock_45 rfl (lv_at hl 0 rfl) ?_
          refine lv_iconst (v := 5) hx hb dX11_lock_46 (by decide) ?_
          refine t_cVi (n := 1) (C := RX11) (T := TX11) (N := 16) (As := [.int 5]) (rest := []) X hT (kt58_X11_no l G tag L F hT.2.2.2 p0 5 m0 g0) m0 g0 rfl rfl qw_1454 qw_1455 qw_1456 qw_2 qw_1457 ⟨rfl, by decide +kernel, by decide +kernel, by decide +kernel⟩ ⟨Nat.le_of_ble_eq_true rfl, Nat.le_of_ble_eq_true rfl⟩ hl rfl rfl (Nat.le_of_ble_eq_true rfl) dX11_lock_47 ⟨Nat.le_of_ble_eq_true rfl, Nat.le_of_ble_eq_true rfl⟩ (fun z69759 F H locs hT hz69759 => ?_)
          obtain ⟨hz69759, yz69759⟩ := hz69759
          have hv69746 := (yz69759.1 _ 5 (Or.inr (by decide))).trans hv69746
          have hfr : (∀ b j : Nat, (tag b ≠ 19 ∨ j ≠ 0) → (tag b ≠ 19 ∨ j ≠ 1) → (tag b ≠ 23 ∨ j ≠ 2) → (tag b ≠ 23 ∨ j ≠ 3) → (tag b ≠ 26 ∨ j ≠ 13) → fld F b j = fld Fo b j) ∧ EF tag F Fo := ⟨fun b j n19_0 n19_1 n23_2 n23_3 n26_13 => (yz69759.1 b j n26_13).trans (hfr.1 b j n19_0 n19_1 n23_2 n23_3 n26_13), fun b j hb => (yz69759.2 b j hb).trans (hfr.2 b j hb)⟩
          exact t_zret hQ X hT (nar_z (by omega)) (⟨(by omega), hfr⟩) (Nat.le_of_ble_eq_true rfl) (Nat.le_of_ble_eq_true rfl) dX11_lock_50
      · have w69760 := cv_nle (rfl : p3.toInt = p3.toInt) (by decide : (99 : Int32).toInt = 99) c69744
        exact K25  _ _ _ _ (by omega) (by omega) hT hfr  (lv_sub hl [0, 1, 2, 3] rfl)
  · have w69761 := cv_eq (rfl : z69736.toInt = z69736.toInt) (by decide : (0 : Int32).toInt = 0) c69737
    refine lv_aload_n hx hb dX11_lock_9 rfl (lv_at hl 0 rfl) ?_
    refine lv_iconst (v := 1) hx hb dX11_lock_10 (by decide) ?_
    refine t_cVi (n := 1) (C := RX11) (T := TX11) (N := 16) (As := [.int 1]) (rest := []) X hT (kt58_X11_no l G tag L F hT.2.2.2 p0 1 m0 g0) m0 g0 rfl rfl qw_1454 qw_1455 qw_1456 qw_2 qw_1457 ⟨rfl, by decide +kernel, by decide +kernel, by decide +kernel⟩ ⟨Nat.le_of_ble_eq_true rfl, Nat.le_of_ble_eq_true rfl⟩ hl rfl rfl (Nat.le_of_ble_eq_true rfl) dX11_lock_11 ⟨Nat.le_of_ble_eq_true rfl, Nat.le_of_ble_eq_true rfl⟩ (fun z69762 F H locs hT hz69762 => ?_)
    obtain ⟨hz69762, yz69762⟩ := hz69762
    have hfr : (∀ b j : Nat, (tag b ≠ 19 ∨ j ≠ 0) → (tag b ≠ 19 ∨ j ≠ 1) → (tag b ≠ 23 ∨ j ≠ 2) → (tag b ≠ 23 ∨ j ≠ 3) → (tag b ≠ 26 ∨ j ≠ 13) → fld F b j = fld Fo b j) ∧ EF tag F Fo := ⟨fun b j n19_0 n19_1 n23_2 n23_3 n26_13 => (yz69762.1 b j n26_13).trans (hfr.1 b j n19_0 n19_1 n23_2 n23_3 n26_13), fun b j hb => (yz69762.2 b j hb).trans (hfr.2 b j hb)⟩
    exact t_zret hQ X hT (nar_z (by omega)) (⟨(by omega), hfr⟩) (Nat.le_of_ble_eq_true rfl) (Nat.le_of_ble_eq_true rfl) dX11_lock_14
set_option maxHeartbeats 4000000 in
set_option maxRecDepth 100000 in
theorem kt163_X2_addMark (l : Launch) (G : KG) (tag : Nat → Nat) (L : List Nat) (Fo : Nat → va_E) (ho : okT G ttC tag L Fo) (p0 : Nat) (p1 : Nat) (m0 : p0 ∈ L) (g0 : tag p0 = 23) (m1 : p1 ∈ L) (g1 : tag p1 = 19) : TMi l yX2_addMark cX2_addMark 2 (some .int) { frames := 2, cells := 0, slots := 0, locals := 45 } G ttC tag L Fo [.ref p0, .ref p1] (fun r F1 => ((-1) ≤ r.toInt ∧ r.toInt ≤ 2) ∧ ((∀ b j : Nat, (tag b ≠ 19 ∨ j ≠ 0) → (tag b ≠ 19 ∨ j ≠ 1) → (tag b ≠ 23 ∨ j ≠ 4) → fld F1 b j = fld Fo b j) ∧ EF tag F1 Fo)) := by
  refine t_bodyi (y := yX2_addMark) (cd := cX2_addMark) (mL := 2) (rt := (some .int)) (rm := { frames := 2, cells := 0, slots := 0, locals := 45 }) (av := [.ref p0, .ref p1]) (by decide) (Nat.le_of_ble_eq_true rfl) ho ?_
  intro p e s m args below meth c ls A Q hQ X hT hl
  have hx := X.1.1
  have hb := X.1.2.1
  have hl : lv_has ls 2 [(0, .ref p0), (1, .ref p1)] := hl
  obtain ⟨F, hFo⟩ : ∃ F : Nat → va_E, F = Fo := ⟨_, rfl⟩
  rw [← hFo] at hT
  have hfr : (∀ b j : Nat, (tag b ≠ 19 ∨ j ≠ 0) → (tag b ≠ 19 ∨ j ≠ 1) → (tag b ≠ 23 ∨ j ≠ 4) → fld F b j = fld Fo b j) ∧ EF tag F Fo := by
    rw [hFo]
    exact ⟨by intros; rfl, fun _ _ _ => rfl⟩
  refine lv_aload_n hx hb dX2_addMark_0 rfl (lv_at hl 0 rfl) ?_
  refine t_get (C := RX2) (T := TX2) (N := 5) X hT m0 g0 rfl rfl 4 (by decide) qw_462 inlX2 rfl dX2_addMark_1 (fun v69936 hv69936 ov69936 => ?_)
  obtain ⟨z69937, rfl, rz69937⟩ := okV_i ov69936
  refine lv_iconst (v := 3) hx hb dX2_addMark_4 (by decide) ?_
  refine lv_icmp_lt (tgt := 10) hx hb dX2_addMark_5 (by decide) (fun c69938 => ?_) (fun c69938 => ?_)
  · have w69939 := cv_lt (rfl : z69937.toInt = z69937.toInt) (by decide : (3 : Int32).toInt = 3) c69938
    refine lv_aload_n hx hb dX2_addMark_10 rfl (lv_at hl 0 rfl) ?_
    refine t_get (C := RX2) (T := TX2) (N := 5) X hT m0 g0 rfl rfl 1 (by decide) qw_104 inlX2 rfl dX2_addMark_11 (fun v69940 hv69940 ov69940 => ?_)
    obtain ⟨b69941, rfl, mb69941, gb69941⟩ := okV_r ov69940
    have gb69941 : tag b69941 = 17 := tg_of gb69941
    refine lv_aload_n hx hb dX2_addMark_14 rfl (lv_at hl 0 rfl) ?_
    refine t_get (C := RX2) (T := TX2) (N := 5) X hT m0 g0 rfl rfl 4 (by decide) qw_462 inlX2 rfl dX2_addMark_15 (fun v69942 hv69942 ov69942 => ?_)
    obtain rfl : v69942 = .int z69937 := hv69942.symm.trans hv69936
    refine t_ald X hT mb69941 gb69941 rfl (by omega) dX2_addMark_18 (fun b69943 mb69943 gb69943 => ?_)
    have gb69943 : tag b69943 = 19 := tg_of gb69943
    refine lv_aload_n hx hb dX2_addMark_19 rfl (lv_at hl 1 rfl) ?_
    refine t_cVv (n := 1) (C := RX7) (T := TX7) (N := 7) (As := [.ref p1]) (rest := []) X hT (kt49_X7_copyFrom l G tag L F hT.2.2.2 b69943 p1 mb69943 gb69943 m1 g1) mb69943 gb69943 rfl rfl qw_1432 qw_450 qw_451 qw_22 qw_452 ⟨rfl, by decide +kernel, by decide +kernel, by decide +kernel⟩ ⟨Nat.le_of_ble_eq_true rfl, Nat.le_of_ble_eq_true rfl⟩ hl rfl rfl (Nat.le_of_ble_eq_true rfl) dX2_addMark_20 ⟨Nat.le_of_ble_eq_true rfl, Nat.le_of_ble_eq_true rfl⟩ (fun F H locs hT hz69944 => ?_)
    have yz69944 := hz69944
    have hv69936 := (yz69944.1 _ 4 (Or.inr (by decide)) (Or.inr (by decide))).trans hv69936
    have hv69940 := (yz69944.1 _ 1 (Or.inr (by decide)) (Or.inl (by rw [g0]; decide))).trans hv69940
    have hfr : (∀ b j : Nat, (tag b ≠ 19 ∨ j ≠ 0) → (tag b ≠ 19 ∨ j ≠ 1) → (tag b ≠ 23 ∨ j ≠ 4) → fld F b j = fld Fo b j) ∧ EF tag F Fo := ⟨fun b j n19_0 n19_1 n23_4 => (yz69944.1 b j n19_0 n19_1).trans (hfr.1 b j n19_0 n19_1 n23_4), fun b j hb => (yz69944.2 b j hb).trans (hfr.2 b j hb)⟩
    refine lv_aload_n hx hb dX2_addMark_23 rfl (lv_at hl 0 rfl) ?_
    refine lv_dup hx hb dX2_addMark_24 rfl ?_
    refine t_get (C := RX2) (T := TX2) (N := 5) X hT m0 g0 rfl rfl 4 (by decide) qw_462 inlX2 rfl dX2_addMark_25 (fun v69945 hv69945 ov69945 => ?_)
    obtain rfl : v69945 = .int z69937 := hv69945.symm.trans hv69936
    refine lv_iconst (v := 1) hx hb dX2_addMark_28 (by decide) ?_
    refine lv_iadd hx hb dX2_addMark_29 ?_
    refine lv_topi (fun z69946 ez69946 => ?_)
    have hz69946 : z69946.toInt = z69937.toInt + 1 := ar_add ez69946 (rfl : z69937.toInt = z69937.toInt) (by decide : (1 : Int32).toInt = 1) (by omega) (by omega)
    have rz69946 : 1 ≤ z69946.toInt ∧ z69946.toInt ≤ 3 := by omega
    refine t_put (C := RX2) (T := TX2) (N := 5) (v := .int z69946) X hT m0 g0 rfl tyX2 tyX2_ok nmX2 rfl 4 (by decide) qw_462 inlX2 rfl (by first | rfl | decide) (by first | rfl | decide) rfl (⟨_, rfl, (show 0 ≤ (z69946 : Int32).toInt from (by omega)), (show (z69946 : Int32).toInt ≤ 3 from (by omega))⟩) dX2_addMark_30 (fun F H locs hT v69947 h1v69947 h2v69947 => ?_)
    have hv69940 := (h1v69947 _ _ (Or.inr (by decide))).trans hv69940
    have hfr : (∀ b j : Nat, (tag b ≠ 19 ∨ j ≠ 0) → (tag b ≠ 19 ∨ j ≠ 1) → (tag b ≠ 23 ∨ j ≠ 4) → fld F b j = fld Fo b j) ∧ EF tag F Fo := ⟨fun b j n19_0 n19_1 n23_4 => (h1v69947 b j (fr_ne g0 n23_4)).trans (hfr.1 b j n19_0 n19_1 n23_4), fun b j hb => (h2v69947 b j).trans (hfr.2 b j hb)⟩
    refine lv_aload_n hx hb dX2_addMark_33 rfl (lv_at hl 0 rfl) ?_
    refine t_get (C := RX2) (T := TX2) (N := 5) X hT m0 g0 rfl rfl 4 (by decide) qw_462 inlX2 rfl dX2_addMark_34 (fun v69948 hv69948 ov69948 => ?_)
    obtain rfl : v69948 = .int z69946 := hv69948.symm.trans v69947
    refine lv_iconst (v := 1) hx hb dX2_addMark_37 (by decide) ?_
    refine lv_isub hx hb dX2_addMark_38 ?_
    refine lv_topi (fun z69949 ez69949 => ?_)
    have hz69949 : z69949.toInt = z69946.toInt - 1 := ar_sub ez69949 (rfl : z69946.toInt = z69946.toInt) (by decide : (1 : Int32).toInt = 1) (by omega) (by omega)
    have rz69949 : 0 ≤ z69949.toInt ∧ z69949.toInt ≤ 2 := by omega
    exact t_iret hQ X hT (⟨(by omega), hfr⟩) (Nat.le_of_ble_eq_true rfl) (Nat.le_of_ble_eq_true rfl) dX2_addMark_39
  · have w69950 := cv_nlt (rfl : z69937.toInt = z69937.toInt) (by decide : (3 : Int32).toInt = 3) c69938
    refine lv_iconst (v := (-1)) hx hb dX2_addMark_8 (by decide) ?_
    exact t_iret hQ X hT (⟨(by decide), hfr⟩) (Nat.le_of_ble_eq_true rfl) (Nat.le_of_ble_eq_true rfl) dX2_addMark_9
set_option maxHeartbeats 4000000 in
set_option maxRecDepth 100000 in
theorem kt164_X11_mark (l : Launch) (G : KG) (tag : Nat → Nat) (L : List Nat) (Fo : Nat → va_E) (ho : okT G ttC tag L Fo) (p0 : Nat) (m0 : p0 ∈ L) (g0 : tag p0 = 26) : TMi l yX11_mark cX11_mark 2 (some .int) { frames := 3, cells := 0, slots := 0, locals := 66 } G ttC tag L Fo [.ref p0] (fun r F1 => ((-2147483648) ≤ r.toInt ∧ r.toInt ≤ 2147483647) ∧ ((∀ b j : Nat, (tag b ≠ 19 ∨ j ≠ 0) → (tag b ≠ 19 ∨ j ≠ 1) → (tag b ≠ 23 ∨ j ≠ 4) → (tag b ≠ 26 ∨ j ≠ 13) → fld F1 b j = fld Fo b j) ∧ EF tag F1 Fo)) := by
  refine t_bodyi (y := yX11_mark) (cd := cX11_mark) (mL := 2) (rt := (some .int)) (rm := { frames := 3, cells := 0, slots := 0, locals := 66 }) (av := [.ref p0]) (by decide) (Nat.le_of_ble_eq_true rfl) ho ?_
  intro p e s m args below meth c ls A Q hQ X hT hl
  have hx := X.1.1
  have hb := X.1.2.1
  have hl : lv_has ls 2 [(0, .ref p0)] := hl
  obtain ⟨F, hFo⟩ : ∃ F : Nat → va_E, F = Fo := ⟨_, rfl⟩
  rw [← hFo] at hT
  have hfr : (∀ b j : Nat, (tag b ≠ 19 ∨ j ≠ 0) → (tag b ≠ 19 ∨ j ≠ 1) → (tag b ≠ 23 ∨ j ≠ 4) → (tag b ≠ 26 ∨ j ≠ 13) → fld F b j = fld Fo b j) ∧ EF tag F Fo := by
    rw [hFo]
    exact ⟨by intros; rfl, fun _ _ _ => rfl⟩
  refine lv_aload_n hx hb dX11_mark_0 rfl (lv_at hl 0 rfl) ?_
  refine t_get (C := RX11) (T := TX11) (N := 16) X hT m0 g0 rfl rfl 2 (by decide) qw_150 inlX11 rfl dX11_mark_1 (fun v70119 hv70119 ov70119 => ?_)
  obtain ⟨z70120, rfl, rz70120⟩ := okV_i ov70119
  refine lv_if_ne (tgt := 13) hx hb dX11_mark_4 (by decide) (fun c70121 => ?_) (fun c70121 => ?_)
  · have w70122 := cv_ne (rfl : z70120.toInt = z70120.toInt) (by decide : (0 : Int32).toInt = 0) c70121
    refine lv_aload_n hx hb dX11_mark_13 rfl (lv_at hl 0 rfl) ?_
    refine t_get (C := RX11) (T := TX11) (N := 16) X hT m0 g0 rfl rfl 12 (by decide) qw_45 inlX11 rfl dX11_mark_14 (fun v70123 hv70123 ov70123 => ?_)
    obtain ⟨b70124, rfl, mb70124, gb70124⟩ := okV_r ov70123
    have gb70124 : tag b70124 = 23 := tg_of gb70124
    refine lv_aload_n hx hb dX11_mark_17 rfl (lv_at hl 0 rfl) ?_
    refine t_get (C := RX11) (T := TX11) (N := 16) X hT m0 g0 rfl rfl 5 (by decide) qw_23 inlX11 rfl dX11_mark_18 (fun v70125 hv70125 ov70125 => ?_)
    obtain ⟨b70126, rfl, mb70126, gb70126⟩ := okV_r ov70125
    have gb70126 : tag b70126 = 19 := tg_of gb70126
    refine t_cVi (n := 1) (C := RX2) (T := TX2) (N := 5) (As := [.ref b70126]) (rest := []) X hT (kt163_X2_addMark l G tag L F hT.2.2.2 b70124 b70126 mb70124 gb70124 mb70126 gb70126) mb70124 gb70124 rfl rfl qw_1533 qw_1534 qw_1535 qw_44 qw_1536 ⟨rfl, by decide +kernel, by decide +kernel, by decide +kernel⟩ ⟨Nat.le_of_ble_eq_true rfl, Nat.le_of_ble_eq_true rfl⟩ hl rfl rfl (Nat.le_of_ble_eq_true rfl) dX11_mark_21 ⟨Nat.le_of_ble_eq_true rfl, Nat.le_of_ble_eq_true rfl⟩ (fun z70127 F H locs hT hz70127 => ?_)
    obtain ⟨hz70127, yz70127⟩ := hz70127
    have hv70119 := (yz70127.1 _ 2 (Or.inr (by decide)) (Or.inr (by decide)) (Or.inr (by decide))).trans hv70119
    have hv70123 := (yz70127.1 _ 12 (Or.inr (by decide)) (Or.inr (by decide)) (Or.inr (by decide))).trans hv70123
    have hv70125 := (yz70127.1 _ 5 (Or.inr (by decide)) (Or.inr (by decide)) (Or.inr (by decide))).trans hv70125
    have hfr : (∀ b j : Nat, (tag b ≠ 19 ∨ j ≠ 0) → (tag b ≠ 19 ∨ j ≠ 1) → (tag b ≠ 23 ∨ j ≠ 4) → (tag b ≠ 26 ∨ j ≠ 13) → fld F b j = fld Fo b j) ∧ EF tag F Fo := ⟨fun b j n19_0 n19_1 n23_4 n26_13 => (yz70127.1 b j n19_0 n19_1 n23_4).trans (hfr.1 b j n19_0 n19_1 n23_4 n26_13), fun b j hb => (yz70127.2 b j hb).trans (hfr.2 b j hb)⟩
    refine lv_istore_n (lv' := [(1, .int z70127), (0, .ref p0)]) hx hb dX11_mark_24 rfl hl (by decide) rfl (fun ls hl => ?_)
    refine lv_iload_n hx hb dX11_mark_25 rfl (lv_at hl 0 rfl) ?_
    refine lv_iconst (v := (-1)) hx hb dX11_mark_26 (by decide) ?_
    refine lv_icmp_ne (tgt := 38) hx hb dX11_mark_27 (by decide) (fun c70128 => ?_) (fun c70128 => ?_)
    · have w70129 := cv_ne (rfl : z70127.toInt = z70127.toInt) (by decide : ((-1) : Int32).toInt = (-1)) c70128
      refine lv_aload_n hx hb dX11_mark_38 rfl (lv_at hl 1 rfl) ?_
      refine lv_iload_n hx hb dX11_mark_39 rfl (lv_at hl 0 rfl) ?_
      refine t_cVi (n := 1) (C := RX11) (T := TX11) (N := 16) (As := [.int z70127]) (rest := []) X hT (kt56_X11_answer l G tag L F hT.2.2.2 p0 z70127 m0 g0) m0 g0 rfl rfl qw_463 qw_464 qw_465 qw_2 qw_466 ⟨rfl, by decide +kernel, by decide +kernel, by decide +kernel⟩ ⟨Nat.le_of_ble_eq_true rfl, Nat.le_of_ble_eq_true rfl⟩ hl rfl rfl (Nat.le_of_ble_eq_true rfl) dX11_mark_40 ⟨Nat.le_of_ble_eq_true rfl, Nat.le_of_ble_eq_true rfl⟩ (fun z70130 F H locs hT hz70130 => ?_)
      obtain ⟨hz70130, yz70130⟩ := hz70130
      have hv70119 := (yz70130.1 _ 2 (Or.inr (by decide))).trans hv70119
      have hv70123 := (yz70130.1 _ 12 (Or.inr (by decide))).trans hv70123
      have hv70125 := (yz70130.1 _ 5 (Or.inr (by decide))).trans hv70125
      have hfr : (∀ b j : Nat, (tag b ≠ 19 ∨ j ≠ 0) → (tag b ≠ 19 ∨ j ≠ 1) → (tag b ≠ 23 ∨ j ≠ 4) → (tag b ≠ 26 ∨ j ≠ 13) → fld F b j = fld Fo b j) ∧ EF tag F Fo := ⟨fun b j n19_0 n19_1 n23_4 n26_13 => (yz70130.1 b j n26_13).trans (hfr.1 b j n19_0 n19_1 n23_4 n26_13), fun b j hb => (yz70130.2 b j hb).trans (hfr.2 b j hb)⟩
      exact t_iret hQ X hT (⟨rg_all _, hfr⟩) (Nat.le_of_ble_eq_true rfl) (Nat.le_of_ble_eq_true rfl) dX11_mark_43
    · have w70131 := cv_eq (rfl : z70127.toInt = z70127.toInt) (by decide : ((-1) : Int32).toInt = (-1)) c70128
      refine lv_aload_n hx hb dX11_mark_30 rfl (lv_at hl 1 rfl) ?_
      refine lv_iconst (v := 3) hx hb dX11_mark_31 (by decide) ?_
      refine t_cVi (n := 1) (C := RX11) (T := TX11) (N := 16) (As := [.int 3]) (rest := []) X hT (kt63_X11_refuse l G tag L F hT.2.2.2 p0 3 m0 g0) m0 g0 rfl rfl qw_152 qw_153 qw_154 qw_2 qw_155 ⟨rfl, by decide +kernel, by decide +kernel, by decide +kernel⟩ ⟨Nat.le_of_ble_eq_true rfl, Nat.le_of_ble_eq_true rfl⟩ hl rfl rfl (Nat.le_of_ble_eq_true rfl) dX11_mark_32 ⟨Nat.le_of_ble_eq_true rfl, Nat.le_of_ble_eq_true rfl⟩ (fun z70132 F H locs hT hz70132 => ?_)
      obtain ⟨hz70132, yz70132⟩ := hz70132
      have hv70119 := (yz70132.1 _ 2 (Or.inr (by decide))).trans hv70119
      have hv70123 := (yz70132.1 _ 12 (Or.inr (by decide))).trans hv70123
      have hv70125 := (yz70132.1 _ 5 (Or.inr (by decide))).trans hv70125
      have hfr : (∀ b j : Nat, (tag b ≠ 19 ∨ j ≠ 0) → (tag b ≠ 19 ∨ j ≠ 1) → (tag b ≠ 23 ∨ j ≠ 4) → (tag b ≠ 26 ∨ j ≠ 13) → fld F b j = fld Fo b j) ∧ EF tag F Fo := ⟨fun b j n19_0 n19_1 n23_4 n26_13 => (yz70132.1 b j n26_13).trans (hfr.1 b j n19_0 n19_1 n23_4 n26_13), fun b j hb => (yz70132.2 b j hb).trans (hfr.2 b j hb)⟩
      refine lv_goto (tgt := 43) hx hb dX11_mark_35 (by decide) ?_
      exact t_iret hQ X hT (⟨rg_all _, hfr⟩) (Nat.le_of_ble_eq_true rfl) (Nat.le_of_ble_eq_true rfl) dX11_mark_43
  · have w70133 := cv_eq (rfl : z70120.toInt = z70120.toInt) (by decide : (0 : Int32).toInt = 0) c70121
    refine lv_aload_n hx hb dX11_mark_7 rfl (lv_at hl 0 rfl) ?_
    refine lv_iconst (v := 1) hx hb dX11_mark_8 (by decide) ?_
    refine t_cVi (n := 1) (C := RX11) (T := TX11) (N := 16) (As := [.int 1]) (rest := []) X hT (kt63_X11_refuse l G tag L F hT.2.2.2 p0 1 m0 g0) m0 g0 rfl rfl qw_152 qw_153 qw_154 qw_2 qw_155 ⟨rfl, by decide +kernel, by decide +kernel, by decide +kernel⟩ ⟨Nat.le_of_ble_eq_true rfl, Nat.le_of_ble_eq_true rfl⟩ hl rfl rfl (Nat.le_of_ble_eq_true rfl) dX11_mark_9 ⟨Nat.le_of_ble_eq_true rfl, Nat.le_of_ble_eq_true rfl⟩ (fun z70134 F H locs hT hz70134 => ?_)
    obtain ⟨hz70134, yz70134⟩ := hz70134
    have hv70119 := (yz70134.1 _ 2 (Or.inr (by decide))).trans hv70119
    have hfr : (∀ b j : Nat, (tag b ≠ 19 ∨ j ≠ 0) → (tag b ≠ 19 ∨ j ≠ 1) → (tag b ≠ 23 ∨ j ≠ 4) → (tag b ≠ 26 ∨ j ≠ 13) → fld F b j = fld Fo b j) ∧ EF tag F Fo := ⟨fun b j n19_0 n19_1 n23_4 n26_13 => (yz70134.1 b j n26_13).trans (hfr.1 b j n19_0 n19_1 n23_4 n26_13), fun b j hb => (yz70134.2 b j hb).trans (hfr.2 b j hb)⟩
    exact t_iret hQ X hT (⟨rg_all _, hfr⟩) (Nat.le_of_ble_eq_true rfl) (Nat.le_of_ble_eq_true rfl) dX11_mark_12
set_option maxHeartbeats 4000000 in
set_option maxRecDepth 100000 in
theorem kt165_X11_meet (l : Launch) (G : KG) (tag : Nat → Nat) (L : List Nat) (Fo : Nat → va_E) (ho : okT G ttC tag L Fo) (p0 : Nat) (p1 : Int32) (p2 : Int32) (p3 : Int32) (m0 : p0 ∈ L) (g0 : tag p0 = 26) : TMi l yX11_meet cX11_meet 5 (some .int) { frames := 6, cells := 0, slots := 0, locals := 157 } G ttC tag L Fo [.ref p0, .int p1, .int p2, .int p3] (fun r F1 => ((-2147483648) ≤ r.toInt ∧ r.toInt ≤ 2147483647) ∧ ((∀ b j : Nat, (tag b ≠ 19 ∨ j ≠ 0) → (tag b ≠ 19 ∨ j ≠ 1) → (tag b ≠ 26 ∨ j ≠ 13) → fld F1 b j = fld Fo b j) ∧ EF tag F1 Fo)) := by
  refine t_bodyi (y := yX11_meet) (cd := cX11_meet) (mL := 5) (rt := (some .int)) (rm := { frames := 6, cells := 0, slots := 0, locals := 157 }) (av := [.ref p0, .int p1, .int p2, .int p3]) (by decide) (Nat.le_of_ble_eq_true rfl) ho ?_
  intro p e s m args below meth c ls A Q hQ X hT hl
  have hx := X.1.1
  have hb := X.1.2.1
  have hl : lv_has ls 5 [(0, .ref p0), (1, .int p1), (2, .int p2), (3, .int p3)] := hl
  have rp1 := rg_all p1
  have rp2 := rg_all p2
  have rp3 := rg_all p3
  obtain ⟨F, hFo⟩ : ∃ F : Nat → va_E, F = Fo := ⟨_, rfl⟩
  rw [← hFo] at hT
  have hfr : (∀ b j : Nat, (tag b ≠ 19 ∨ j ≠ 0) → (tag b ≠ 19 ∨ j ≠ 1) → (tag b ≠ 26 ∨ j ≠ 13) → fld F b j = fld Fo b j) ∧ EF tag F Fo := by
    rw [hFo]
    exact ⟨by intros; rfl, fun _ _ _ => rfl⟩
  have K21 : ∀  (F : Nat → va_E) (H : Heap) (locs : List Loc) (ls : Array Slot), TH G ttC A s tag L F H locs → ((∀ b j : Nat, (tag b ≠ 19 ∨ j ≠ 0) → (tag b ≠ 19 ∨ j ≠ 1) → (tag b ≠ 26 ∨ j ≠ 13) → fld F b j = fld Fo b j) ∧ EF tag F Fo) → lv_has ls 5 [(0, .ref p0), (1, .int p1), (2, .int p2), (3, .int p3)] → W p l e { frames := 6, cells := 0, slots := 0, locals := 157 } s m args below meth c H locs 0 0 Q (F0 m 21 ls []) := by
    intro F H locs ls hT hfr hl
    refine lv_aload_n hx hb dX11_meet_21 rfl (lv_at hl 0 rfl) ?_
    refine lv_iconst (v := 1) hx hb dX11_meet_22 (by decide) ?_
    refine t_cVi (n := 1) (C := RX11) (T := TX11) (N := 16) (As := [.int 1]) (rest := []) X hT (kt63_X11_refuse l G tag L F hT.2.2.2 p0 1 m0 g0) m0 g0 rfl rfl qw_152 qw_153 qw_154 qw_2 qw_155 ⟨rfl, by decide +kernel, by decide +kernel, by decide +kernel⟩ ⟨Nat.le_of_ble_eq_true rfl, Nat.le_of_ble_eq_true rfl⟩ hl rfl rfl (Nat.le_of_ble_eq_true rfl) dX11_meet_23 ⟨Nat.le_of_ble_eq_true rfl, Nat.le_of_ble_eq_true rfl⟩ (fun z70970 F H locs hT hz70970 => ?_)
    obtain ⟨hz70970, yz70970⟩ := hz70970
    have hfr : (∀ b j : Nat, (tag b ≠ 19 ∨ j ≠ 0) → (tag b ≠ 19 ∨ j ≠ 1) → (tag b ≠ 26 ∨ j ≠ 13) → fld F b j = fld Fo b j) ∧ EF tag F Fo := ⟨fun b j n19_0 n19_1 n26_13 => (yz70970.1 b j n26_13).trans (hfr.1 b j n19_0 n19_1 n26_13), fun b j hb => (yz70970.2 b j hb).trans (hfr.2 b j hb)⟩
    exact t_iret hQ X hT (⟨rg_all _, hfr⟩) (Nat.le_of_ble_eq_true rfl) (Nat.le_of_ble_eq_true rfl) dX11_meet_26
  have K37 : ∀  (F : Nat → va_E) (H : Heap) (locs : List Loc) (ls : Array Slot), (0 ≤ p1.toInt ∧ p1.toInt ≤ 3) → (0 ≤ p2.toInt ∧ p2.toInt ≤ 3) → TH G ttC A s tag L F H locs → ((∀ b j : Nat, (tag b ≠ 19 ∨ j ≠ 0) → (tag b ≠ 19 ∨ j ≠ 1) → (tag b ≠ 26 ∨ j ≠ 13) → fld F b j = fld Fo b j) ∧ EF tag F Fo) → lv_has ls 5 [(0, .ref p0), (1, .int p1), (2, .int p2), (3, .int p3)] → W p l e { frames := 6, cells := 0, slots := 0, locals := 157 } s m args below meth c H locs 0 0 Q (F0 m 37 ls []) := by
    intro F H locs ls r9s70971 r9s70972 hT hfr hl
    refine lv_aload_n hx hb dX11_meet_37 rfl (lv_at hl 0 rfl) ?_
    refine lv_iconst (v := 2) hx hb dX11_meet_38 (by decide) ?_
    refine t_cVi (n := 1) (C := RX11) (T := TX11) (N := 16) (As := [.int 2]) (rest := []) X hT (kt63_X11_refuse l G tag L F hT.2.2.2 p0 2 m0 g0) m0 g0 rfl rfl qw_152 qw_153 qw_154 qw_2 qw_155 ⟨rfl, by decide +kernel, by decide +kernel, by decide +kernel⟩ ⟨Nat.le_of_ble_eq_true rfl, Nat.le_of_ble_eq_true rfl⟩ hl rfl rfl (Nat.le_of_ble_eq_true rfl) dX11_meet_39 ⟨Nat.le_of_ble_eq_true rfl, Nat.le_of_ble_eq_true rfl⟩ (fun z70973 F H locs hT hz70973 => ?_)
    obtain ⟨hz70973, yz70973⟩ := hz70973
    have hfr : (∀ b j : Nat, (tag b ≠ 19 ∨ j ≠ 0) → (tag b ≠ 19 ∨ j ≠ 1) → (tag b ≠ 26 ∨ j ≠ 13) → fld F b j = fld Fo b j) ∧ EF tag F Fo := ⟨fun b j n19_0 n19_1 n26_13 => (yz70973.1 b j n26_13).trans (hfr.1 b j n19_0 n19_1 n26_13), fun b j hb => (yz70973.2 b j hb).trans (hfr.2 b j hb)⟩
    exact t_iret hQ X hT (⟨rg_all _, hfr⟩) (Nat.le_of_ble_eq_true rfl) (Nat.le_of_ble_eq_true rfl) dX11_meet_42
  have K57 : ∀ (n : Nat) (z70977 : Int32) (F : Nat → va_E) (H : Heap) (locs : List Loc) (ls : Array Slot), (61 - z70977.toInt < (n : Int)) → (0 ≤ z70977.toInt ∧ z70977.toInt ≤ 61) → (0 ≤ p1.toInt ∧ p1.toInt ≤ 3) → (0 ≤ p2.toInt ∧ p2.toInt ≤ 3) → (0 ≤ p3.toInt ∧ p3.toInt ≤ 60) → TH G ttC A s tag L F H locs → ((∀ b j : Nat, (tag b ≠ 19 ∨ j ≠ 0) → (tag b ≠ 19 ∨ j ≠ 1) → (tag b ≠ 26 ∨ j ≠ 13) → fld F b j = fld Fo b j) ∧ EF tag F Fo) → lv_has ls 5 [(0, .ref p0), (1, .int p1), (2, .int p2), (3, .int p3), (4, .int z70977)] → W p l e { frames := 6, cells := 0, slots := 0, locals := 157 } s m args below meth c H locs 0 0 Q (F0 m 57 ls []) := by
    intro n
    induction n with
    | zero =>
      intro z70977 F H locs ls hn rz70977 r9s70974 r9s70975 r9s70976 hT hfr hl
      exfalso
      omega
    | succ n ih57 =>
      intro z70977 F H locs ls hn rz70977 r9s70974 r9s70975 r9s70976 hT hfr hl
      refine lv_iload hx hb dX11_meet_57 (lv_at hl 4 rfl) ?_
      refine lv_iload_n hx hb dX11_meet_59 rfl (lv_at hl 3 rfl) ?_
      refine lv_icmp_gt (tgt := 106) hx hb dX11_meet_60 (by decide) (fun c70978 => ?_) (fun c70978 => ?_)
      · have w70979 := cv_lt (rfl : p3.toInt = p3.toInt) (rfl : z70977.toInt = z70977.toInt) c70978
        refine lv_aload_n hx hb dX11_meet_106 rfl (lv_at hl 0 rfl) ?_
        refine lv_bipush (v := (-2)) hx hb dX11_meet_107 (by decide) ?_
        refine t_cVi (n := 1) (C := RX11) (T := TX11) (N := 16) (As := [.int (-2)]) (rest := []) X hT (kt56_X11_answer l G tag L F hT.2.2.2 p0 (-2) m0 g0) m0 g0 rfl rfl qw_463 qw_464 qw_465 qw_2 qw_466 ⟨rfl, by decide +kernel, by decide +kernel, by decide +kernel⟩ ⟨Nat.le_of_ble_eq_true rfl, Nat.le_of_ble_eq_true rfl⟩ hl rfl rfl (Nat.le_of_ble_eq_true rfl) dX11_meet_109 ⟨Nat.le_of_ble_eq_true rfl, Nat.le_of_ble_eq_true rfl⟩ (fun z70980 F H locs hT hz70980 => ?_)
        obtain ⟨hz70980, yz70980⟩ := hz70980
        have hfr : (∀ b j : Nat, (tag b ≠ 19 ∨ j ≠ 0) → (tag b ≠ 19 ∨ j ≠ 1) → (tag b ≠ 26 ∨ j ≠ 13) → fld F b j = fld Fo b j) ∧ EF tag F Fo := ⟨fun b j n19_0 n19_1 n26_13 => (yz70980.1 b j n26_13).trans (hfr.1 b j n19_0 n19_1 n26_13), fun b j hb => (yz70980.2 b j hb).trans (hfr.2 b j hb)⟩
        exact t_iret hQ X hT (⟨rg_all _, hfr⟩) (Nat.le_of_ble_eq_true rfl) (Nat.le_of_ble_eq_true rfl) dX11_meet_112
      · have w70981 := cv_nlt (rfl : p3.toInt = p3.toInt) (rfl : z70977.toInt = z70977.toInt) c70978
        refine lv_aload_n hx hb dX11_meet_63 rfl (lv_at hl 0 rfl) ?_
        refine t_get (C := RX11) (T := TX11) (N := 16) X hT m0 g0 rfl rfl 3 (by decide) qw_18 inlX11 rfl dX11_meet_64 (fun v70982 hv70982 ov70982 => ?_)
        obtain ⟨b70983, rfl, mb70983, gb70983⟩ := okV_r ov70982
        have gb70983 : tag b70983 = 18 := tg_of gb70983
        refine lv_aload_n hx hb dX11_meet_67 rfl (lv_at hl 0 rfl) ?_
        refine t_get (C := RX11) (T := TX11) (N := 16) X hT m0 g0 rfl rfl 7 (by decide) qw_25 inlX11 rfl dX11_meet_68 (fun v70984 hv70984 ov70984 => ?_)
        obtain ⟨b70985, rfl, mb70985, gb70985⟩ := okV_r ov70984
        have gb70985 : tag b70985 = 19 := tg_of gb70985
        refine lv_iload_n hx hb dX11_meet_71 rfl (lv_at hl 1 rfl) ?_
        refine lv_iload_n hx hb dX11_meet_72 rfl (lv_at hl 2 rfl) ?_
        refine t_cSi (n := 4) (As := [.ref b70983, .ref b70985, .int p1, .int p2]) (rest := []) X hT (kt32_X6_isMet l G tag L F hT.2.2.2 b70983 b70985 p1 p2 mb70983 gb70983 mb70985 gb70985 (by omega) (by omega)) qw_1197 qw_1198 qw_380 qw_1199 ⟨by decide +kernel, by decide +kernel, by decide +kernel⟩ ⟨Nat.le_of_ble_eq_true rfl, Nat.le_of_ble_eq_true rfl⟩ hl rfl rfl (Nat.le_of_ble_eq_true rfl) dX11_meet_73 ⟨Nat.le_of_ble_eq_true rfl, Nat.le_of_ble_eq_true rfl⟩ (fun z70986 F9 H locs hT hz70986 => ?_)
        obtain ⟨fz70986, hz70986⟩ := hz70986
        rw [fz70986] at hT
        refine lv_if_eq (tgt := 86) hx hb dX11_meet_76 (by decide) (fun c70987 => ?_) (fun c70987 => ?_)
        · have w70988 := cv_eq (rfl : z70986.toInt = z70986.toInt) (by decide : (0 : Int32).toInt = 0) c70987
          refine lv_aload_n hx hb dX11_meet_86 rfl (lv_at hl 0 rfl) ?_
          refine t_get (C := RX11) (T := TX11) (N := 16) X hT m0 g0 rfl rfl 3 (by decide) qw_18 inlX11 rfl dX11_meet_87 (fun v70989 hv70989 ov70989 => ?_)
          obtain rfl : v70989 = .ref b70983 := hv70989.symm.trans hv70982
          refine lv_aload_n hx hb dX11_meet_90 rfl (lv_at hl 0 rfl) ?_
          refine t_get (C := RX11) (T := TX11) (N := 16) X hT m0 g0 rfl rfl 7 (by decide) qw_25 inlX11 rfl dX11_meet_91 (fun v70990 hv70990 ov70990 => ?_)
          obtain rfl : v70990 = .ref b70985 := hv70990.symm.trans hv70984
          refine t_gets X hT X.2.2.2.1.2.1.2.2.2 qw_1096 dX11_meet_94 ?_
          refine t_cSv (n := 3) (As := [.ref b70983, .ref b70985, .ref (G.2 13)]) (rest := []) X hT (kt71_X10_pass l G tag L F hT.2.2.2 b70983 b70985 mb70983 gb70983 mb70985 gb70985) qw_1097 qw_1098 qw_32 qw_1099 ⟨by decide +kernel, by decide +kernel, by decide +kernel⟩ ⟨Nat.le_of_ble_eq_true rfl, Nat.le_of_ble_eq_true rfl⟩ hl rfl rfl (Nat.le_of_ble_eq_true rfl) dX11_meet_97 ⟨Nat.le_of_ble_eq_true rfl, Nat.le_of_ble_eq_true rfl⟩ (fun F H locs hT hz70991 => ?_)
          have yz70991 := hz70991
          have hv70982 := (yz70991.1 _ 3 (Or.inr (by decide)) (Or.inr (by decide))).trans hv70982
          have hv70984 := (yz70991.1 _ 7 (Or.inr (by decide)) (Or.inr (by decide))).trans hv70984
          have hfr : (∀ b j : Nat, (tag b ≠ 19 ∨ j ≠ 0) → (tag b ≠ 19 ∨ j ≠ 1) → (tag b ≠ 26 ∨ j ≠ 13) → fld F b j = fld Fo b j) ∧ EF tag F Fo := ⟨fun b j n19_0 n19_1 n26_13 => (yz70991.1 b j n19_0 n19_1).trans (hfr.1 b j n19_0 n19_1 n26_13), fun b j hb => (yz70991.2 b j hb).trans (hfr.2 b j hb)⟩
          obtain ⟨z70992, ez70992⟩ : ∃ y : Int32, y = z70977 + 1 := ⟨_, rfl⟩
          have hz70992 : z70992.toInt = z70977.toInt + 1 := ar_add ez70992 rfl (by decide : (1 : Int32).toInt = 1) (by omega) (by omega)
          refine lv_iinc (v := z70992) (lv' := [(4, .int z70992), (0, .ref p0), (1, .int p1), (2, .int p2), (3, .int p3)]) hx hb dX11_meet_100 hl (k := 4) rfl (by rw [ez70992]; rfl) (by decide) rfl (fun ls hl => ?_)
          refine lv_goto (tgt := 57) hx hb dX11_meet_103 (by decide) ?_
          exact ih57 z70992 _ _ _ _ (by omega) (by omega) (by omega) (by omega) (by omega) hT hfr  (lv_sub hl [1, 2, 3, 4, 0] rfl)
        · have w70993 := cv_ne (rfl : z70986.toInt = z70986.toInt) (by decide : (0 : Int32).toInt = 0) c70987
          refine lv_aload_n hx hb dX11_meet_79 rfl (lv_at hl 0 rfl) ?_
          refine lv_iload hx hb dX11_meet_80 (lv_at hl 4 rfl) ?_
          refine t_cVi (n := 1) (C := RX11) (T := TX11) (N := 16) (As := [.int z70977]) (rest := []) X hT (kt56_X11_answer l G tag L F hT.2.2.2 p0 z70977 m0 g0) m0 g0 rfl rfl qw_463 qw_464 qw_465 qw_2 qw_466 ⟨rfl, by decide +kernel, by decide +kernel, by decide +kernel⟩ ⟨Nat.le_of_ble_eq_true rfl, Nat.le_of_ble_eq_true rfl⟩ hl rfl rfl (Nat.le_of_ble_eq_true rfl) dX11_meet_82 ⟨Nat.le_of_ble_eq_true rfl, Nat.le_of_ble_eq_true rfl⟩ (fun z70994 F H locs hT hz70994 => ?_)
          obtain ⟨hz70994, yz70994⟩ := hz70994
          have hv70982 := (yz70994.1 _ 3 (Or.inr (by decide))).trans hv70982
          have hv70984 := (yz70994.1 _ 7 (Or.inr (by decide))).trans hv70984
          have hfr : (∀ b j : Nat, (tag b ≠ 19 ∨ j ≠ 0) → (tag b ≠ 19 ∨ j ≠ 1) → (tag b ≠ 26 ∨ j ≠ 13) → fld F b j = fld Fo b j) ∧ EF tag F Fo := ⟨fun b j n19_0 n19_1 n26_13 => (yz70994.1 b j n26_13).trans (hfr.1 b j n19_0 n19_1 n26_13), fun b j hb => (yz70994.2 b j hb).trans (hfr.2 b j hb)⟩
          exact t_iret hQ X hT (⟨rg_all _, hfr⟩) (Nat.le_of_ble_eq_true rfl) (Nat.le_of_ble_eq_true rfl) dX11_meet_85
  refine lv_aload_n hx hb dX11_meet_0 rfl (lv_at hl 0 rfl) ?_
  refine lv_iload_n hx hb dX11_meet_1 rfl (lv_at hl 1 rfl) ?_
  refine t_cVi (n := 1) (C := RX11) (T := TX11) (N := 16) (As := [.int p1]) (rest := []) X hT (kt61_X11_isHouse l G tag L F hT.2.2.2 p0 p1 m0 g0) m0 g0 rfl rfl qw_770 qw_771 qw_772 qw_2 qw_773 ⟨rfl, by decide +kernel, by decide +kernel, by decide +kernel⟩ ⟨Nat.le_of_ble_eq_true rfl, Nat.le_of_ble_eq_true rfl⟩ hl rfl rfl (Nat.le_of_ble_eq_true rfl) dX11_meet_2 ⟨Nat.le_of_ble_eq_true rfl, Nat.le_of_ble_eq_true rfl⟩ (fun z70995 F9 H locs hT hz70995 => ?_)
  obtain ⟨fz70995, hz70995⟩ := hz70995
  rw [fz70995] at hT
  obtain ⟨hz70995, iz70995⟩ := hz70995
  refine lv_if_eq (tgt := 21) hx hb dX11_meet_5 (by decide) (fun c70996 => ?_) (fun c70996 => ?_)
  · have w70997 := cv_eq (rfl : z70995.toInt = z70995.toInt) (by decide : (0 : Int32).toInt = 0) c70996
    exact K21  _ _ _ _  hT hfr  (lv_sub hl [0, 1, 2, 3] rfl)
  · have w70998 := cv_ne (rfl : z70995.toInt = z70995.toInt) (by decide : (0 : Int32).toInt = 0) c70996
    have w70999 := (fun h => (iz70995 h)) (by omega)
    refine lv_aload_n hx hb dX11_meet_8 rfl (lv_at hl 0 rfl) ?_
    refine lv_iload_n hx hb dX11_meet_9 rfl (lv_at hl 2 rfl) ?_
    refine t_cVi (n := 1) (C := RX11) (T := TX11) (N := 16) (As := [.int p2]) (rest := []) X hT (kt61_X11_isHouse l G tag L F hT.2.2.2 p0 p2 m0 g0) m0 g0 rfl rfl qw_770 qw_771 qw_772 qw_2 qw_773 ⟨rfl, by decide +kernel, by decide +kernel, by decide +kernel⟩ ⟨Nat.le_of_ble_eq_true rfl, Nat.le_of_ble_eq_true rfl⟩ hl rfl rfl (Nat.le_of_ble_eq_true rfl) dX11_meet_10 ⟨Nat.le_of_ble_eq_true rfl, Nat.le_of_ble_eq_true rfl⟩ (fun z71000 F9 H locs hT hz71000 => ?_)
    obtain ⟨fz71000, hz71000⟩ := hz71000
    rw [fz71000] at hT
    obtain ⟨hz71000, iz71000⟩ := hz71000
    refine lv_if_eq (tgt := 21) hx hb dX11_meet_13 (by decide) (fun c71001 => ?_) (fun c71001 => ?_)
    · have w71002 := cv_eq (rfl : z71000.toInt = z71000.toInt) (by decide : (0 : Int32).toInt = 0) c71001
      exact K21  _ _ _ _  hT hfr  (lv_sub hl [0, 1, 2, 3] rfl)
    · have w71003 := cv_ne (rfl : z71000.toInt = z71000.toInt) (by decide : (0 : Int32).toInt = 0) c71001
      have w71004 := (fun h => (iz71000 h)) (by omega)
      refine lv_iload_n hx hb dX11_meet_16 rfl (lv_at hl 1 rfl) ?_
      refine lv_iload_n hx hb dX11_meet_17 rfl (lv_at hl 2 rfl) ?_
      refine lv_icmp_ne (tgt := 27) hx hb dX11_meet_18 (by decide) (fun c71005 => ?_) (fun c71005 => ?_)
      · have w71006 := cv_ne (rfl : p1.toInt = p1.toInt) (rfl : p2.toInt = p2.toInt) c71005
        refine lv_iload_n hx hb dX11_meet_27 rfl (lv_at hl 3 rfl) ?_
        refine lv_if_lt (tgt := 37) hx hb dX11_meet_28 (by decide) (fun c71007 => ?_) (fun c71007 => ?_)
        · have w71008 := cv_lt (rfl : p3.toInt = p3.toInt) (by decide : (0 : Int32).toInt = 0) c71007
          exact K37  _ _ _ _ (by omega) (by omega) hT hfr  (lv_sub hl [0, 1, 2, 3] rfl)
        · have w71009 := cv_nlt (rfl : p3.toInt = p3.toInt) (by decide : (0 : Int32).toInt = 0) c71007
          refine lv_iload_n hx hb dX11_meet_31 rfl (lv_at hl 3 rfl) ?_
          refine lv_bipush (v := 60) hx hb dX11_meet_32 (by decide) ?_
          refine lv_icmp_le (tgt := 43) hx hb dX11_meet_34 (by decide) (fun c71010 => ?_) (fun c71010 => ?_)
          · have w71011 := cv_le (rfl : p3.toInt = p3.toInt) (by decide : (60 : Int32).toInt = 60) c71010
            refine lv_aload_n hx hb dX11_meet_43 rfl (lv_at hl 0 rfl) ?_
            refine t_get (C := RX11) (T := TX11) (N := 16) X hT m0 g0 rfl rfl 7 (by decide) qw_25 inlX11 rfl dX11_meet_44 (fun v71012 hv71012 ov71012 => ?_)
            obtain ⟨b71013, rfl, mb71013, gb71013⟩ := okV_r ov71012
            have gb71013 : tag b71013 = 19 := tg_of gb71013
            refine lv_aload_n hx hb dX11_meet_47 rfl (lv_at hl 0 rfl) ?_
            refine t_get (C := RX11) (T := TX11) (N := 16) X hT m0 g0 rfl rfl 5 (by decide) qw_23 inlX11 rfl dX11_meet_48 (fun v71014 hv71014 ov71014 => ?_)
            obtain ⟨b71015, rfl, mb71015, gb71015⟩ := okV_r ov71014
            have gb71015 : tag b71015 = 19 := tg_of gb71015
            refine t_cVv (n := 1) (C := RX7) (T := TX7) (N := 7) (As := [.ref b71015]) (rest := []) X hT (kt49_X7_copyFrom l G tag L F hT.2.2.2 b71013 b71015 mb71013 gb71013 mb71015 gb71015) mb71013 gb71013 rfl rfl qw_449 qw_450 qw_451 qw_22 qw_452 ⟨rfl, by decide +kernel, by decide +kernel, by decide +kernel⟩ ⟨Nat.le_of_ble_eq_true rfl, Nat.le_of_ble_eq_true rfl⟩ hl rfl rfl (Nat.le_of_ble_eq_true rfl) dX11_meet_51 ⟨Nat.le_of_ble_eq_true rfl, Nat.le_of_ble_eq_true rfl⟩ (fun F H locs hT hz71016 => ?_)
            have yz71016 := hz71016
            have hv71012 := (yz71016.1 _ 7 (Or.inr (by decide)) (Or.inr (by decide))).trans hv71012
            have hv71014 := (yz71016.1 _ 5 (Or.inr (by decide)) (Or.inr (by decide))).trans hv71014
            have hfr : (∀ b j : Nat, (tag b ≠ 19 ∨ j ≠ 0) → (tag b ≠ 19 ∨ j ≠ 1) → (tag b ≠ 26 ∨ j ≠ 13) → fld F b j = fld Fo b j) ∧ EF tag F Fo := ⟨fun b j n19_0 n19_1 n26_13 => (yz71016.1 b j n19_0 n19_1).trans (hfr.1 b j n19_0 n19_1 n26_13), fun b j hb => (yz71016.2 b j hb).trans (hfr.2 b j hb)⟩
            refine lv_iconst (v := 0) hx hb dX11_meet_54 (by decide) ?_
            refine lv_istore (lv' := [(4, .int 0), (0, .ref p0), (1, .int p1), (2, .int p2), (3, .int p3)]) hx hb dX11_meet_55 hl (by decide) rfl (fun ls hl => ?_)
            have kk71017 : (0 : Int32).toInt = 0 := by decide
            exact K57 62 0 _ _ _ _ (by omega) (by decide) (by omega) (by omega) (by omega) hT hfr  (lv_sub hl [1, 2, 3, 4, 0] rfl)
          · have w71018 := cv_nle (rfl : p3.toInt = p3.toInt) (by decide : (60 : Int32).toInt = 60) c71010
            exact K37  _ _ _ _ (by omega) (by omega) hT hfr  (lv_sub hl [0, 1, 2, 3] rfl)
      · have w71019 := cv_eq (rfl : p1.toInt = p1.toInt) (rfl : p2.toInt = p2.toInt) c71005
        exact K21  _ _ _ _  hT hfr  (lv_sub hl [0, 1, 2, 3] rfl)
