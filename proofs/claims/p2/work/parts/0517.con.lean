set_option maxHeartbeats 4000000 in
set_option maxRecDepth 100000 in
theorem kt127_X11_skinsIn (l : Launch) (G : KG) (tag : Nat → Nat) (L : List Nat) (Fo : Nat → va_E) (ho : okT G ttC tag L Fo) (p0 : Nat) (p1 : Int32) (m0 : p0 ∈ L) (g0 : tag p0 = 26) : TMi l yX11_skinsIn cX11_skinsIn 2 (some .int) { frames := 7, cells := 0, slots := 0, locals := 179 } G ttC tag L Fo [.ref p0, .int p1] (fun r F1 => ((-2147483648) ≤ r.toInt ∧ r.toInt ≤ 2147483647) ∧ ((∀ b j : Nat, (tag b ≠ 19 ∨ j ≠ 0) → (tag b ≠ 19 ∨ j ≠ 1) → (tag b ≠ 26 ∨ j ≠ 13) → fld F1 b j = fld Fo b j) ∧ EF tag F1 Fo)) := by
  refine t_bodyi (y := yX11_skinsIn) (cd := cX11_skinsIn) (mL := 2) (rt := (some .int)) (rm := { frames := 7, cells := 0, slots := 0, locals := 179 }) (av := [.ref p0, .int p1]) (by decide) (Nat.le_of_ble_eq_true rfl) ho ?_
  intro p e s m args below meth c ls A Q hQ X hT hl
  have hx := X.1.1
  have hb := X.1.2.1
  have hl : lv_has ls 2 [(0, .ref p0), (1, .int p1)] := hl
  have rp1 := rg_all p1
  obtain ⟨F, hFo⟩ : ∃ F : Nat → va_E, F = Fo := ⟨_, rfl⟩
  rw [← hFo] at hT
  have hfr : (∀ b j : Nat, (tag b ≠ 19 ∨ j ≠ 0) → (tag b ≠ 19 ∨ j ≠ 1) → (tag b ≠ 26 ∨ j ≠ 13) → fld F b j = fld Fo b j) ∧ EF tag F Fo := by
    rw [hFo]
    exact ⟨by intros; rfl, fun _ _ _ => rfl⟩
  have K23 : ∀ (z49156 : Int32) (F : Nat → va_E) (H : Heap) (locs : List Loc) (ls : Array Slot), (1 ≤ z49156.toInt ∧ z49156.toInt ≤ 1) → TH G ttC A s tag L F H locs → ((∀ b j : Nat, (tag b ≠ 19 ∨ j ≠ 0) → (tag b ≠ 19 ∨ j ≠ 1) → (tag b ≠ 26 ∨ j ≠ 13) → fld F b j = fld Fo b j) ∧ EF tag F Fo) → fld F p0 2 = .int z49156 → lv_has ls 2 [(0, .ref p0), (1, .int p1)] → W p l e { frames := 7, cells := 0, slots := 0, locals := 179 } s m args below meth c H locs 0 0 Q (F0 m 23 ls []) := by
    intro z49156 F H locs ls rz49156 hT hfr qz49156 hl
    refine lv_aload_n hx hb dX11_skinsIn_23 rfl (lv_at hl 0 rfl) ?_
    refine lv_iconst (v := 2) hx hb dX11_skinsIn_24 (by decide) ?_
    refine t_cVi (n := 1) (C := RX11) (T := TX11) (N := 16) (As := [.int 2]) (rest := []) X hT (kt63_X11_refuse l G tag L F hT.2.2.2 p0 2 m0 g0) m0 g0 rfl rfl qw_152 qw_153 qw_154 qw_2 qw_155 ⟨rfl, by decide +kernel, by decide +kernel, by decide +kernel⟩ ⟨Nat.le_of_ble_eq_true rfl, Nat.le_of_ble_eq_true rfl⟩ hl rfl rfl (Nat.le_of_ble_eq_true rfl) dX11_skinsIn_25 ⟨Nat.le_of_ble_eq_true rfl, Nat.le_of_ble_eq_true rfl⟩ (fun z49157 F H locs hT hz49157 => ?_)
    obtain ⟨hz49157, yz49157⟩ := hz49157
    have qz49156 := (yz49157.1 _ 2 (Or.inr (by decide))).trans qz49156
    have hfr : (∀ b j : Nat, (tag b ≠ 19 ∨ j ≠ 0) → (tag b ≠ 19 ∨ j ≠ 1) → (tag b ≠ 26 ∨ j ≠ 13) → fld F b j = fld Fo b j) ∧ EF tag F Fo := ⟨fun b j n19_0 n19_1 n26_13 => (yz49157.1 b j n26_13).trans (hfr.1 b j n19_0 n19_1 n26_13), fun b j hb => (yz49157.2 b j hb).trans (hfr.2 b j hb)⟩
    exact t_iret hQ X hT (⟨rg_all _, hfr⟩) (Nat.le_of_ble_eq_true rfl) (Nat.le_of_ble_eq_true rfl) dX11_skinsIn_28
  refine lv_aload_n hx hb dX11_skinsIn_0 rfl (lv_at hl 0 rfl) ?_
  refine t_get (C := RX11) (T := TX11) (N := 16) X hT m0 g0 rfl rfl 2 (by decide) qw_150 inlX11 rfl dX11_skinsIn_1 (fun v49158 hv49158 ov49158 => ?_)
  obtain ⟨z49159, rfl, rz49159⟩ := okV_i ov49158
  refine lv_if_ne (tgt := 13) hx hb dX11_skinsIn_4 (by decide) (fun c49160 => ?_) (fun c49160 => ?_)
  · have w49161 := cv_ne (rfl : z49159.toInt = z49159.toInt) (by decide : (0 : Int32).toInt = 0) c49160
    refine lv_iload_n hx hb dX11_skinsIn_13 rfl (lv_at hl 1 rfl) ?_
    refine lv_if_lt (tgt := 23) hx hb dX11_skinsIn_14 (by decide) (fun c49162 => ?_) (fun c49162 => ?_)
    · have w49163 := cv_lt (rfl : p1.toInt = p1.toInt) (by decide : (0 : Int32).toInt = 0) c49162
      exact K23 z49159 _ _ _ _ (by omega) hT hfr hv49158 (lv_sub hl [0, 1] rfl)
    · have w49164 := cv_nlt (rfl : p1.toInt = p1.toInt) (by decide : (0 : Int32).toInt = 0) c49162
      refine lv_iload_n hx hb dX11_skinsIn_17 rfl (lv_at hl 1 rfl) ?_
      refine lv_bipush (v := 60) hx hb dX11_skinsIn_18 (by decide) ?_
      refine lv_icmp_le (tgt := 29) hx hb dX11_skinsIn_20 (by decide) (fun c49165 => ?_) (fun c49165 => ?_)
      · have w49166 := cv_le (rfl : p1.toInt = p1.toInt) (by decide : (60 : Int32).toInt = 60) c49165
        refine lv_aload_n hx hb dX11_skinsIn_29 rfl (lv_at hl 0 rfl) ?_
        refine lv_iload_n hx hb dX11_skinsIn_30 rfl (lv_at hl 1 rfl) ?_
        refine t_cVv (n := 1) (C := RX11) (T := TX11) (N := 16) (As := [.int p1]) (rest := []) X hT (kt83_X11_goTo l G tag L F hT.2.2.2 p0 p1 m0 g0 (by omega)) m0 g0 rfl rfl qw_1092 qw_1093 qw_1094 qw_2 qw_1095 ⟨rfl, by decide +kernel, by decide +kernel, by decide +kernel⟩ ⟨Nat.le_of_ble_eq_true rfl, Nat.le_of_ble_eq_true rfl⟩ hl rfl rfl (Nat.le_of_ble_eq_true rfl) dX11_skinsIn_31 ⟨Nat.le_of_ble_eq_true rfl, Nat.le_of_ble_eq_true rfl⟩ (fun F H locs hT hz49167 => ?_)
        have yz49167 := hz49167
        have hv49158 := (yz49167.1 _ 2 (Or.inr (by decide)) (Or.inr (by decide))).trans hv49158
        have hfr : (∀ b j : Nat, (tag b ≠ 19 ∨ j ≠ 0) → (tag b ≠ 19 ∨ j ≠ 1) → (tag b ≠ 26 ∨ j ≠ 13) → fld F b j = fld Fo b j) ∧ EF tag F Fo := ⟨fun b j n19_0 n19_1 n26_13 => (yz49167.1 b j n19_0 n19_1).trans (hfr.1 b j n19_0 n19_1 n26_13), fun b j hb => (yz49167.2 b j hb).trans (hfr.2 b j hb)⟩
        refine lv_aload_n hx hb dX11_skinsIn_34 rfl (lv_at hl 0 rfl) ?_
        refine lv_aload_n hx hb dX11_skinsIn_35 rfl (lv_at hl 0 rfl) ?_
        refine t_get (C := RX11) (T := TX11) (N := 16) X hT m0 g0 rfl rfl 7 (by decide) qw_25 inlX11 rfl dX11_skinsIn_36 (fun v49168 hv49168 ov49168 => ?_)
        obtain ⟨b49169, rfl, mb49169, gb49169⟩ := okV_r ov49168
        have gb49169 : tag b49169 = 19 := tg_of gb49169
        refine t_cVi (n := 0) (C := RX7) (T := TX7) (N := 7) (As := []) (rest := [.ref p0]) X hT (kt23_X7_skinsOfAll l G tag L F hT.2.2.2 b49169 mb49169 gb49169) mb49169 gb49169 rfl rfl qw_1182 qw_1183 qw_1184 qw_22 qw_1185 ⟨rfl, by decide +kernel, by decide +kernel, by decide +kernel⟩ ⟨Nat.le_of_ble_eq_true rfl, Nat.le_of_ble_eq_true rfl⟩ hl rfl rfl (Nat.le_of_ble_eq_true rfl) dX11_skinsIn_39 ⟨Nat.le_of_ble_eq_true rfl, Nat.le_of_ble_eq_true rfl⟩ (fun z49170 F9 H locs hT hz49170 => ?_)
        obtain ⟨fz49170, hz49170⟩ := hz49170
        rw [fz49170] at hT
        refine t_cVi (n := 1) (C := RX11) (T := TX11) (N := 16) (As := [.int z49170]) (rest := []) X hT (kt56_X11_answer l G tag L F hT.2.2.2 p0 z49170 m0 g0) m0 g0 rfl rfl qw_463 qw_464 qw_465 qw_2 qw_466 ⟨rfl, by decide +kernel, by decide +kernel, by decide +kernel⟩ ⟨Nat.le_of_ble_eq_true rfl, Nat.le_of_ble_eq_true rfl⟩ hl rfl rfl (Nat.le_of_ble_eq_true rfl) dX11_skinsIn_42 ⟨Nat.le_of_ble_eq_true rfl, Nat.le_of_ble_eq_true rfl⟩ (fun z49171 F H locs hT hz49171 => ?_)
        obtain ⟨hz49171, yz49171⟩ := hz49171
        have hv49158 := (yz49171.1 _ 2 (Or.inr (by decide))).trans hv49158
        have hv49168 := (yz49171.1 _ 7 (Or.inr (by decide))).trans hv49168
        have hfr : (∀ b j : Nat, (tag b ≠ 19 ∨ j ≠ 0) → (tag b ≠ 19 ∨ j ≠ 1) → (tag b ≠ 26 ∨ j ≠ 13) → fld F b j = fld Fo b j) ∧ EF tag F Fo := ⟨fun b j n19_0 n19_1 n26_13 => (yz49171.1 b j n26_13).trans (hfr.1 b j n19_0 n19_1 n26_13), fun b j hb => (yz49171.2 b j hb).trans (hfr.2 b j hb)⟩
        exact t_iret hQ X hT (⟨rg_all _, hfr⟩) (Nat.le_of_ble_eq_true rfl) (Nat.le_of_ble_eq_true rfl) dX11_skinsIn_45
      · have w49172 := cv_nle (rfl : p1.toInt = p1.toInt) (by decide : (60 : Int32).toInt = 60) c49165
        exact K23 z49159 _ _ _ _ (by omega) hT hfr hv49158 (lv_sub hl [0, 1] rfl)
  · have w49173 := cv_eq (rfl : z49159.toInt = z49159.toInt) (by decide : (0 : Int32).toInt = 0) c49160
    refine lv_aload_n hx hb dX11_skinsIn_7 rfl (lv_at hl 0 rfl) ?_
    refine lv_iconst (v := 1) hx hb dX11_skinsIn_8 (by decide) ?_
    refine t_cVi (n := 1) (C := RX11) (T := TX11) (N := 16) (As := [.int 1]) (rest := []) X hT (kt63_X11_refuse l G tag L F hT.2.2.2 p0 1 m0 g0) m0 g0 rfl rfl qw_152 qw_153 qw_154 qw_2 qw_155 ⟨rfl, by decide +kernel, by decide +kernel, by decide +kernel⟩ ⟨Nat.le_of_ble_eq_true rfl, Nat.le_of_ble_eq_true rfl⟩ hl rfl rfl (Nat.le_of_ble_eq_true rfl) dX11_skinsIn_9 ⟨Nat.le_of_ble_eq_true rfl, Nat.le_of_ble_eq_true rfl⟩ (fun z49174 F H locs hT hz49174 => ?_)
    obtain ⟨hz49174, yz49174⟩ := hz49174
    have hv49158 := (yz49174.1 _ 2 (Or.inr (by decide))).trans hv49158
    have hfr : (∀ b j : Nat, (tag b ≠ 19 ∨ j ≠ 0) → (tag b ≠ 19 ∨ j ≠ 1) → (tag b ≠ 26 ∨ j ≠ 13) → fld F b j = fld Fo b j) ∧ EF tag F Fo := ⟨fun b j n19_0 n19_1 n26_13 => (yz49174.1 b j n26_13).trans (hfr.1 b j n19_0 n19_1 n26_13), fun b j hb => (yz49174.2 b j hb).trans (hfr.2 b j hb)⟩
    exact t_iret hQ X hT (⟨rg_all _, hfr⟩) (Nat.le_of_ble_eq_true rfl) (Nat.le_of_ble_eq_true rfl) dX11_skinsIn_12
set_option maxHeartbeats 4000000 in
set_option maxRecDepth 100000 in
theorem kt128_X11_soonest (l : Launch) (G : KG) (tag : Nat → Nat) (L : List Nat) (Fo : Nat → va_E) (ho : okT G ttC tag L Fo) (p0 : Nat) (p1 : Int32) (m0 : p0 ∈ L) (g0 : tag p0 = 26) : TMi l yX11_soonest cX11_soonest 2 (some .int) { frames := 4, cells := 0, slots := 0, locals := 86 } G ttC tag L Fo [.ref p0, .int p1] (fun r F1 => ((-2147483648) ≤ r.toInt ∧ r.toInt ≤ 2147483647) ∧ ((∀ b j : Nat, (tag b ≠ 22 ∨ j ≠ 2) → (tag b ≠ 26 ∨ j ≠ 13) → fld F1 b j = fld Fo b j) ∧ EF tag F1 Fo)) := by
  refine t_bodyi (y := yX11_soonest) (cd := cX11_soonest) (mL := 2) (rt := (some .int)) (rm := { frames := 4, cells := 0, slots := 0, locals := 86 }) (av := [.ref p0, .int p1]) (by decide) (Nat.le_of_ble_eq_true rfl) ho ?_
  intro p e s m args below meth c ls A Q hQ X hT hl
  have hx := X.1.1
  have hb := X.1.2.1
  have hl : lv_has ls 2 [(0, .ref p0), (1, .int p1)] := hl
  have rp1 := rg_all p1
  obtain ⟨F, hFo⟩ : ∃ F : Nat → va_E, F = Fo := ⟨_, rfl⟩
  rw [← hFo] at hT
  have hfr : (∀ b j : Nat, (tag b ≠ 22 ∨ j ≠ 2) → (tag b ≠ 26 ∨ j ≠ 13) → fld F b j = fld Fo b j) ∧ EF tag F Fo := by
    rw [hFo]
    exact ⟨by intros; rfl, fun _ _ _ => rfl⟩
  have K57 : ∀ (z49484 : Int32) (b49485 : Nat) (F : Nat → va_E) (H : Heap) (locs : List Loc) (ls : Array Slot), (b49485 ∈ L) → (tag b49485 = 26) → (0 ≤ p1.toInt ∧ p1.toInt ≤ 5) → TH G ttC A s tag L F H locs → ((∀ b j : Nat, (tag b ≠ 22 ∨ j ≠ 2) → (tag b ≠ 26 ∨ j ≠ 13) → fld F b j = fld Fo b j) ∧ EF tag F Fo) → lv_has ls 2 [(0, .ref p0), (1, .int p1)] → W p l e { frames := 4, cells := 0, slots := 0, locals := 86 } s m args below meth c H locs 0 0 Q (F0 m 57 ls [.int z49484, .ref b49485]) := by
    intro z49484 b49485 F H locs ls mb49485 gb49485 r9s49483 hT hfr hl
    have rz49484 := rg_all z49484
    refine t_cVi (n := 1) (C := RX11) (T := TX11) (N := 16) (As := [.int z49484]) (rest := []) X hT (kt56_X11_answer l G tag L F hT.2.2.2 b49485 z49484 mb49485 gb49485) mb49485 gb49485 rfl rfl qw_463 qw_464 qw_465 qw_2 qw_466 ⟨rfl, by decide +kernel, by decide +kernel, by decide +kernel⟩ ⟨Nat.le_of_ble_eq_true rfl, Nat.le_of_ble_eq_true rfl⟩ hl rfl rfl (Nat.le_of_ble_eq_true rfl) dX11_soonest_57 ⟨Nat.le_of_ble_eq_true rfl, Nat.le_of_ble_eq_true rfl⟩ (fun z49486 F H locs hT hz49486 => ?_)
    obtain ⟨hz49486, yz49486⟩ := hz49486
    have hfr : (∀ b j : Nat, (tag b ≠ 22 ∨ j ≠ 2) → (tag b ≠ 26 ∨ j ≠ 13) → fld F b j = fld Fo b j) ∧ EF tag F Fo := ⟨fun b j n22_2 n26_13 => (yz49486.1 b j n26_13).trans (hfr.1 b j n22_2 n26_13), fun b j hb => (yz49486.2 b j hb).trans (hfr.2 b j hb)⟩
    exact t_iret hQ X hT (⟨rg_all _, hfr⟩) (Nat.le_of_ble_eq_true rfl) (Nat.le_of_ble_eq_true rfl) dX11_soonest_60
  refine lv_aload_n hx hb dX11_soonest_0 rfl (lv_at hl 0 rfl) ?_
  refine lv_iload_n hx hb dX11_soonest_1 rfl (lv_at hl 1 rfl) ?_
  refine t_cVi (n := 1) (C := RX11) (T := TX11) (N := 16) (As := [.int p1]) (rest := []) X hT (kt92_X11_isWall l G tag L F hT.2.2.2 p0 p1 m0 g0) m0 g0 rfl rfl qw_1379 qw_1380 qw_1381 qw_2 qw_1382 ⟨rfl, by decide +kernel, by decide +kernel, by decide +kernel⟩ ⟨Nat.le_of_ble_eq_true rfl, Nat.le_of_ble_eq_true rfl⟩ hl rfl rfl (Nat.le_of_ble_eq_true rfl) dX11_soonest_2 ⟨Nat.le_of_ble_eq_true rfl, Nat.le_of_ble_eq_true rfl⟩ (fun z49487 F9 H locs hT hz49487 => ?_)
  obtain ⟨fz49487, hz49487⟩ := hz49487
  rw [fz49487] at hT
  obtain ⟨hz49487, iz49487⟩ := hz49487
  refine lv_if_ne (tgt := 14) hx hb dX11_soonest_5 (by decide) (fun c49488 => ?_) (fun c49488 => ?_)
  · have w49489 := cv_ne (rfl : z49487.toInt = z49487.toInt) (by decide : (0 : Int32).toInt = 0) c49488
    have w49490 := (fun h => (iz49487 h)) (by omega)
    refine lv_aload_n hx hb dX11_soonest_14 rfl (lv_at hl 0 rfl) ?_
    refine t_get (C := RX11) (T := TX11) (N := 16) X hT m0 g0 rfl rfl 11 (by decide) qw_41 inlX11 rfl dX11_soonest_15 (fun v49491 hv49491 ov49491 => ?_)
    obtain ⟨b49492, rfl, mb49492, gb49492⟩ := okV_r ov49491
    have gb49492 : tag b49492 = 22 := tg_of gb49492
    refine lv_aload_n hx hb dX11_soonest_18 rfl (lv_at hl 0 rfl) ?_
    refine t_get (C := RX11) (T := TX11) (N := 16) X hT m0 g0 rfl rfl 3 (by decide) qw_18 inlX11 rfl dX11_soonest_19 (fun v49493 hv49493 ov49493 => ?_)
    obtain ⟨b49494, rfl, mb49494, gb49494⟩ := okV_r ov49493
    have gb49494 : tag b49494 = 18 := tg_of gb49494
    refine lv_aload_n hx hb dX11_soonest_22 rfl (lv_at hl 0 rfl) ?_
    refine t_get (C := RX11) (T := TX11) (N := 16) X hT m0 g0 rfl rfl 5 (by decide) qw_23 inlX11 rfl dX11_soonest_23 (fun v49495 hv49495 ov49495 => ?_)
    obtain ⟨b49496, rfl, mb49496, gb49496⟩ := okV_r ov49495
    have gb49496 : tag b49496 = 19 := tg_of gb49496
    refine t_get (C := RX7) (T := TX7) (N := 7) X hT mb49496 gb49496 rfl rfl 0 (by decide) qw_1225 inlX7 rfl dX11_soonest_26 (fun v49497 hv49497 ov49497 => ?_)
    obtain ⟨z49498, rfl, rz49498⟩ := okV_i ov49497
    refine t_cVv (n := 2) (C := RX9) (T := TX9) (N := 6) (As := [.ref b49494, .int z49498]) (rest := []) X hT (kt107_X9_lookAtAll l G tag L F hT.2.2.2 b49492 b49494 z49498 mb49492 gb49492 mb49494 gb49494) mb49492 gb49492 rfl rfl qw_1333 qw_1334 qw_1335 qw_40 qw_1336 ⟨rfl, by decide +kernel, by decide +kernel, by decide +kernel⟩ ⟨Nat.le_of_ble_eq_true rfl, Nat.le_of_ble_eq_true rfl⟩ hl rfl rfl (Nat.le_of_ble_eq_true rfl) dX11_soonest_29 ⟨Nat.le_of_ble_eq_true rfl, Nat.le_of_ble_eq_true rfl⟩ (fun F H locs hT hz49499 => ?_)
    have yz49499 := hz49499
    have hv49491 := (yz49499.1 _ 11 (Or.inr (by decide))).trans hv49491
    have hv49493 := (yz49499.1 _ 3 (Or.inr (by decide))).trans hv49493
    have hv49495 := (yz49499.1 _ 5 (Or.inr (by decide))).trans hv49495
    have hv49497 := (yz49499.1 _ 0 (Or.inr (by decide))).trans hv49497
    have hfr : (∀ b j : Nat, (tag b ≠ 22 ∨ j ≠ 2) → (tag b ≠ 26 ∨ j ≠ 13) → fld F b j = fld Fo b j) ∧ EF tag F Fo := ⟨fun b j n22_2 n26_13 => (yz49499.1 b j n22_2).trans (hfr.1 b j n22_2 n26_13), fun b j hb => (yz49499.2 b j hb).trans (hfr.2 b j hb)⟩
    refine lv_aload_n hx hb dX11_soonest_32 rfl (lv_at hl 0 rfl) ?_
    refine lv_aload_n hx hb dX11_soonest_33 rfl (lv_at hl 0 rfl) ?_
    refine t_get (C := RX11) (T := TX11) (N := 16) X hT m0 g0 rfl rfl 11 (by decide) qw_41 inlX11 rfl dX11_soonest_34 (fun v49500 hv49500 ov49500 => ?_)
    obtain rfl : v49500 = .ref b49492 := hv49500.symm.trans hv49491
    refine t_get (C := RX9) (T := TX9) (N := 6) X hT mb49492 gb49492 rfl rfl 2 (by decide) qw_1332 inlX9 rfl dX11_soonest_37 (fun v49501 hv49501 ov49501 => ?_)
    obtain ⟨z49502, rfl, rz49502⟩ := okV_i ov49501
    refine lv_if_ne (tgt := 48) hx hb dX11_soonest_40 (by decide) (fun c49503 => ?_) (fun c49503 => ?_)
    · have w49504 := cv_ne (rfl : z49502.toInt = z49502.toInt) (by decide : (0 : Int32).toInt = 0) c49503
      refine lv_aload_n hx hb dX11_soonest_48 rfl (lv_at hl 0 rfl) ?_
      refine t_get (C := RX11) (T := TX11) (N := 16) X hT m0 g0 rfl rfl 11 (by decide) qw_41 inlX11 rfl dX11_soonest_49 (fun v49505 hv49505 ov49505 => ?_)
      obtain rfl : v49505 = .ref b49492 := hv49505.symm.trans hv49491
      refine t_get (C := RX9) (T := TX9) (N := 6) X hT mb49492 gb49492 rfl rfl 3 (by decide) qw_1400 inlX9 rfl dX11_soonest_52 (fun v49506 hv49506 ov49506 => ?_)
      obtain ⟨b49507, rfl, mb49507, gb49507⟩ := okV_r ov49506
      have gb49507 : tag b49507 = 7 := tg_of gb49507
      refine lv_iload_n hx hb dX11_soonest_55 rfl (lv_at hl 1 rfl) ?_
      refine t_ild X hT mb49507 gb49507 rfl (by omega) dX11_soonest_56 (fun z49508 vz49508 rz49508 => ?_)
      have rz49508 : (-2147483648) ≤ z49508.toInt ∧ z49508.toInt ≤ 2147483647 := rz49508
      exact K57 z49508 p0 _ _ _ _ m0 g0 (by omega) hT hfr  (lv_sub hl [0, 1] rfl)
    · have w49509 := cv_eq (rfl : z49502.toInt = z49502.toInt) (by decide : (0 : Int32).toInt = 0) c49503
      refine lv_bipush (v := (-2)) hx hb dX11_soonest_43 (by decide) ?_
      refine lv_goto (tgt := 57) hx hb dX11_soonest_45 (by decide) ?_
      exact K57 (-2) p0 _ _ _ _ m0 g0 (by omega) hT hfr  (lv_sub hl [0, 1] rfl)
  · have w49510 := cv_eq (rfl : z49487.toInt = z49487.toInt) (by decide : (0 : Int32).toInt = 0) c49488
    refine lv_aload_n hx hb dX11_soonest_8 rfl (lv_at hl 0 rfl) ?_
    refine lv_iconst (v := 1) hx hb dX11_soonest_9 (by decide) ?_
    refine t_cVi (n := 1) (C := RX11) (T := TX11) (N := 16) (As := [.int 1]) (rest := []) X hT (kt63_X11_refuse l G tag L F hT.2.2.2 p0 1 m0 g0) m0 g0 rfl rfl qw_152 qw_153 qw_154 qw_2 qw_155 ⟨rfl, by decide +kernel, by decide +kernel, by decide +kernel⟩ ⟨Nat.le_of_ble_eq_true rfl, Nat.le_of_ble_eq_true rfl⟩ hl rfl rfl (Nat.le_of_ble_eq_true rfl) dX11_soonest_10 ⟨Nat.le_of_ble_eq_true rfl, Nat.le_of_ble_eq_true rfl⟩ (fun z49511 F H locs hT hz49511 => ?_)
    obtain ⟨hz49511, yz49511⟩ := hz49511
    have hfr : (∀ b j : Nat, (tag b ≠ 22 ∨ j ≠ 2) → (tag b ≠ 26 ∨ j ≠ 13) → fld F b j = fld Fo b j) ∧ EF tag F Fo := ⟨fun b j n22_2 n26_13 => (yz49511.1 b j n26_13).trans (hfr.1 b j n22_2 n26_13), fun b j hb => (yz49511.2 b j hb).trans (hfr.2 b j hb)⟩
    exact t_iret hQ X hT (⟨rg_all _, hfr⟩) (Nat.le_of_ble_eq_true rfl) (Nat.le_of_ble_eq_true rfl) dX11_soonest_13
set_option maxHeartbeats 4000000 in
set_option maxRecDepth 100000 in
theorem kt129_X11_stone (l : Launch) (G : KG) (tag : Nat → Nat) (L : List Nat) (Fo : Nat → va_E) (ho : okT G ttC tag L Fo) (p0 : Nat) (p1 : Int32) (p2 : Int32) (m0 : p0 ∈ L) (g0 : tag p0 = 26) : TMi l yX11_stone cX11_stone 3 (some .int) { frames := 1, cells := 0, slots := 0, locals := 23 } G ttC tag L Fo [.ref p0, .int p1, .int p2] (fun r F1 => ((-2147483648) ≤ r.toInt ∧ r.toInt ≤ 2147483647) ∧ ((∀ b j : Nat, (tag b ≠ 26 ∨ j ≠ 13) → fld F1 b j = fld Fo b j) ∧ EF tag F1 Fo)) := by
  refine t_bodyi (y := yX11_stone) (cd := cX11_stone) (mL := 3) (rt := (some .int)) (rm := { frames := 1, cells := 0, slots := 0, locals := 23 }) (av := [.ref p0, .int p1, .int p2]) (by decide) (Nat.le_of_ble_eq_true rfl) ho ?_
  intro p e s m args below meth c ls A Q hQ X hT hl
  have hx := X.1.1
  have hb := X.1.2.1
  have hl : lv_has ls 3 [(0, .ref p0), (1, .int p1), (2, .int p2)] := hl
  have rp1 := rg_all p1
  have rp2 := rg_all p2
  obtain ⟨F, hFo⟩ : ∃ F : Nat → va_E, F = Fo := ⟨_, rfl⟩
  rw [← hFo] at hT
  have hfr : (∀ b j : Nat, (tag b ≠ 26 ∨ j ≠ 13) → fld F b j = fld Fo b j) ∧ EF tag F Fo := by
    rw [hFo]
    exact ⟨by intros; rfl, fun _ _ _ => rfl⟩
  have K17 : ∀  (F : Nat → va_E) (H : Heap) (locs : List Loc) (ls : Array Slot), TH G ttC A s tag L F H locs → ((∀ b j : Nat, (tag b ≠ 26 ∨ j ≠ 13) → fld F b j = fld Fo b j) ∧ EF tag F Fo) → lv_has ls 3 [(0, .ref p0), (1, .int p1), (2, .int p2)] → W p l e { frames := 1, cells := 0, slots := 0, locals := 23 } s m args below meth c H locs 0 0 Q (F0 m 17 ls []) := by
    intro F H locs ls hT hfr hl
    refine lv_aload_n hx hb dX11_stone_17 rfl (lv_at hl 0 rfl) ?_
    refine lv_iconst (v := 1) hx hb dX11_stone_18 (by decide) ?_
    refine t_cVi (n := 1) (C := RX11) (T := TX11) (N := 16) (As := [.int 1]) (rest := []) X hT (kt63_X11_refuse l G tag L F hT.2.2.2 p0 1 m0 g0) m0 g0 rfl rfl qw_152 qw_153 qw_154 qw_2 qw_155 ⟨rfl, by decide +kernel, by decide +kernel, by decide +kernel⟩ ⟨Nat.le_of_ble_eq_true rfl, Nat.le_of_ble_eq_true rfl⟩ hl rfl rfl (Nat.le_of_ble_eq_true rfl) dX11_stone_19 ⟨Nat.le_of_ble_eq_true rfl, Nat.le_of_ble_eq_true rfl⟩ (fun z49688 F H locs hT hz49688 => ?_)
    obtain ⟨hz49688, yz49688⟩ := hz49688
    have hfr : (∀ b j : Nat, (tag b ≠ 26 ∨ j ≠ 13) → fld F b j = fld Fo b j) ∧ EF tag F Fo := ⟨fun b j n26_13 => (yz49688.1 b j n26_13).trans (hfr.1 b j n26_13), fun b j hb => (yz49688.2 b j hb).trans (hfr.2 b j hb)⟩
    exact t_iret hQ X hT (⟨rg_all _, hfr⟩) (Nat.le_of_ble_eq_true rfl) (Nat.le_of_ble_eq_true rfl) dX11_stone_22
  refine lv_aload_n hx hb dX11_stone_0 rfl (lv_at hl 0 rfl) ?_
  refine lv_iload_n hx hb dX11_stone_1 rfl (lv_at hl 1 rfl) ?_
  refine t_cVi (n := 1) (C := RX11) (T := TX11) (N := 16) (As := [.int p1]) (rest := []) X hT (kt65_X11_isStone l G tag L F hT.2.2.2 p0 p1 m0 g0) m0 g0 rfl rfl qw_954 qw_955 qw_956 qw_2 qw_957 ⟨rfl, by decide +kernel, by decide +kernel, by decide +kernel⟩ ⟨Nat.le_of_ble_eq_true rfl, Nat.le_of_ble_eq_true rfl⟩ hl rfl rfl (Nat.le_of_ble_eq_true rfl) dX11_stone_2 ⟨Nat.le_of_ble_eq_true rfl, Nat.le_of_ble_eq_true rfl⟩ (fun z49689 F9 H locs hT hz49689 => ?_)
  obtain ⟨fz49689, hz49689⟩ := hz49689
  rw [fz49689] at hT
  refine lv_if_eq (tgt := 17) hx hb dX11_stone_5 (by decide) (fun c49690 => ?_) (fun c49690 => ?_)
  · have w49691 := cv_eq (rfl : z49689.toInt = z49689.toInt) (by decide : (0 : Int32).toInt = 0) c49690
    exact K17  _ _ _ _  hT hfr  (lv_sub hl [0, 1, 2] rfl)
  · have w49692 := cv_ne (rfl : z49689.toInt = z49689.toInt) (by decide : (0 : Int32).toInt = 0) c49690
    refine lv_iload_n hx hb dX11_stone_8 rfl (lv_at hl 2 rfl) ?_
    refine lv_if_lt (tgt := 17) hx hb dX11_stone_9 (by decide) (fun c49693 => ?_) (fun c49693 => ?_)
    · have w49694 := cv_lt (rfl : p2.toInt = p2.toInt) (by decide : (0 : Int32).toInt = 0) c49693
      exact K17  _ _ _ _  hT hfr  (lv_sub hl [0, 1, 2] rfl)
    · have w49695 := cv_nlt (rfl : p2.toInt = p2.toInt) (by decide : (0 : Int32).toInt = 0) c49693
      refine lv_iload_n hx hb dX11_stone_12 rfl (lv_at hl 2 rfl) ?_
      refine lv_iconst (v := 5) hx hb dX11_stone_13 (by decide) ?_
      refine lv_icmp_lt (tgt := 23) hx hb dX11_stone_14 (by decide) (fun c49696 => ?_) (fun c49696 => ?_)
      · have w49697 := cv_lt (rfl : p2.toInt = p2.toInt) (by decide : (5 : Int32).toInt = 5) c49696
        refine lv_aload_n hx hb dX11_stone_23 rfl (lv_at hl 0 rfl) ?_
        refine lv_aload_n hx hb dX11_stone_24 rfl (lv_at hl 0 rfl) ?_
        refine t_get (C := RX11) (T := TX11) (N := 16) X hT m0 g0 rfl rfl 3 (by decide) qw_18 inlX11 rfl dX11_stone_25 (fun v49698 hv49698 ov49698 => ?_)
        obtain ⟨b49699, rfl, mb49699, gb49699⟩ := okV_r ov49698
        have gb49699 : tag b49699 = 18 := tg_of gb49699
        refine lv_iload_n hx hb dX11_stone_28 rfl (lv_at hl 1 rfl) ?_
        refine lv_iload_n hx hb dX11_stone_29 rfl (lv_at hl 2 rfl) ?_
        refine t_cVi (n := 2) (C := RX1) (T := TX1) (N := 20) (As := [.int p1, .int p2]) (rest := [.ref p0]) X hT (kt9_X1_stonePart l G tag L F hT.2.2.2 b49699 p1 p2 mb49699 gb49699) mb49699 gb49699 rfl rfl qw_857 qw_858 qw_859 qw_17 qw_860 ⟨rfl, by decide +kernel, by decide +kernel, by decide +kernel⟩ ⟨Nat.le_of_ble_eq_true rfl, Nat.le_of_ble_eq_true rfl⟩ hl rfl rfl (Nat.le_of_ble_eq_true rfl) dX11_stone_30 ⟨Nat.le_of_ble_eq_true rfl, Nat.le_of_ble_eq_true rfl⟩ (fun z49700 F9 H locs hT hz49700 => ?_)
        obtain ⟨fz49700, hz49700⟩ := hz49700
        rw [fz49700] at hT
        refine t_cVi (n := 1) (C := RX11) (T := TX11) (N := 16) (As := [.int z49700]) (rest := []) X hT (kt56_X11_answer l G tag L F hT.2.2.2 p0 z49700 m0 g0) m0 g0 rfl rfl qw_463 qw_464 qw_465 qw_2 qw_466 ⟨rfl, by decide +kernel, by decide +kernel, by decide +kernel⟩ ⟨Nat.le_of_ble_eq_true rfl, Nat.le_of_ble_eq_true rfl⟩ hl rfl rfl (Nat.le_of_ble_eq_true rfl) dX11_stone_33 ⟨Nat.le_of_ble_eq_true rfl, Nat.le_of_ble_eq_true rfl⟩ (fun z49701 F H locs hT hz49701 => ?_)
        obtain ⟨hz49701, yz49701⟩ := hz49701
        have hv49698 := (yz49701.1 _ 3 (Or.inr (by decide))).trans hv49698
        have hfr : (∀ b j : Nat, (tag b ≠ 26 ∨ j ≠ 13) → fld F b j = fld Fo b j) ∧ EF tag F Fo := ⟨fun b j n26_13 => (yz49701.1 b j n26_13).trans (hfr.1 b j n26_13), fun b j hb => (yz49701.2 b j hb).trans (hfr.2 b j hb)⟩
        exact t_iret hQ X hT (⟨rg_all _, hfr⟩) (Nat.le_of_ble_eq_true rfl) (Nat.le_of_ble_eq_true rfl) dX11_stone_36
      · have w49702 := cv_nlt (rfl : p2.toInt = p2.toInt) (by decide : (5 : Int32).toInt = 5) c49696
        exact K17  _ _ _ _  hT hfr  (lv_sub hl [0, 1, 2] rfl)
set_option maxHeartbeats 4000000 in
set_option maxRecDepth 100000 in
theorem kt130_X11_surely (l : Launch) (G : KG) (tag : Nat → Nat) (L : List Nat) (Fo : Nat → va_E) (ho : okT G ttC tag L Fo) (p0 : Nat) (p1 : Int32) (p2 : Int32) (m0 : p0 ∈ L) (g0 : tag p0 = 26) : TMi l yX11_surely cX11_surely 4 (some .int) { frames := 4, cells := 0, slots := 0, locals := 86 } G ttC tag L Fo [.ref p0, .int p1, .int p2] (fun r F1 => ((-2147483648) ≤ r.toInt ∧ r.toInt ≤ 2147483647) ∧ ((∀ b j : Nat, (tag b ≠ 22 ∨ j ≠ 2) → (tag b ≠ 26 ∨ j ≠ 13) → fld F1 b j = fld Fo b j) ∧ EF tag F1 Fo)) := by
  refine t_bodyi (y := yX11_surely) (cd := cX11_surely) (mL := 4) (rt := (some .int)) (rm := { frames := 4, cells := 0, slots := 0, locals := 86 }) (av := [.ref p0, .int p1, .int p2]) (by decide) (Nat.le_of_ble_eq_true rfl) ho ?_
  intro p e s m args below meth c ls A Q hQ X hT hl
  have hx := X.1.1
  have hb := X.1.2.1
  have hl : lv_has ls 4 [(0, .ref p0), (1, .int p1), (2, .int p2)] := hl
  have rp1 := rg_all p1
  have rp2 := rg_all p2
  obtain ⟨F, hFo⟩ : ∃ F : Nat → va_E, F = Fo := ⟨_, rfl⟩
  rw [← hFo] at hT
  have hfr : (∀ b j : Nat, (tag b ≠ 22 ∨ j ≠ 2) → (tag b ≠ 26 ∨ j ≠ 13) → fld F b j = fld Fo b j) ∧ EF tag F Fo := by
    rw [hFo]
    exact ⟨by intros; rfl, fun _ _ _ => rfl⟩
  have K21 : ∀  (F : Nat → va_E) (H : Heap) (locs : List Loc) (ls : Array Slot), TH G ttC A s tag L F H locs → ((∀ b j : Nat, (tag b ≠ 22 ∨ j ≠ 2) → (tag b ≠ 26 ∨ j ≠ 13) → fld F b j = fld Fo b j) ∧ EF tag F Fo) → lv_has ls 4 [(0, .ref p0), (1, .int p1), (2, .int p2)] → W p l e { frames := 4, cells := 0, slots := 0, locals := 86 } s m args below meth c H locs 0 0 Q (F0 m 21 ls []) := by
    intro F H locs ls hT hfr hl
    refine lv_aload_n hx hb dX11_surely_21 rfl (lv_at hl 0 rfl) ?_
    refine lv_iconst (v := 1) hx hb dX11_surely_22 (by decide) ?_
    refine t_cVi (n := 1) (C := RX11) (T := TX11) (N := 16) (As := [.int 1]) (rest := []) X hT (kt63_X11_refuse l G tag L F hT.2.2.2 p0 1 m0 g0) m0 g0 rfl rfl qw_152 qw_153 qw_154 qw_2 qw_155 ⟨rfl, by decide +kernel, by decide +kernel, by decide +kernel⟩ ⟨Nat.le_of_ble_eq_true rfl, Nat.le_of_ble_eq_true rfl⟩ hl rfl rfl (Nat.le_of_ble_eq_true rfl) dX11_surely_23 ⟨Nat.le_of_ble_eq_true rfl, Nat.le_of_ble_eq_true rfl⟩ (fun z50273 F H locs hT hz50273 => ?_)
    obtain ⟨hz50273, yz50273⟩ := hz50273
    have hfr : (∀ b j : Nat, (tag b ≠ 22 ∨ j ≠ 2) → (tag b ≠ 26 ∨ j ≠ 13) → fld F b j = fld Fo b j) ∧ EF tag F Fo := ⟨fun b j n22_2 n26_13 => (yz50273.1 b j n26_13).trans (hfr.1 b j n22_2 n26_13), fun b j hb => (yz50273.2 b j hb).trans (hfr.2 b j hb)⟩
    exact t_iret hQ X hT (⟨rg_all _, hfr⟩) (Nat.le_of_ble_eq_true rfl) (Nat.le_of_ble_eq_true rfl) dX11_surely_26
  have K88 : ∀ (z50276 : Int32) (z50277 : Int32) (b50278 : Nat) (F : Nat → va_E) (H : Heap) (locs : List Loc) (ls : Array Slot), (0 ≤ z50276.toInt ∧ z50276.toInt ≤ 1) → (0 ≤ z50277.toInt ∧ z50277.toInt ≤ 1) → (b50278 ∈ L) → (tag b50278 = 26) → (0 ≤ p1.toInt ∧ p1.toInt ≤ 5) → (0 ≤ p2.toInt ∧ p2.toInt ≤ 5) → TH G ttC A s tag L F H locs → ((∀ b j : Nat, (tag b ≠ 22 ∨ j ≠ 2) → (tag b ≠ 26 ∨ j ≠ 13) → fld F b j = fld Fo b j) ∧ EF tag F Fo) → lv_has ls 4 [(0, .ref p0), (1, .int p1), (2, .int p2), (3, .int z50276)] → W p l e { frames := 4, cells := 0, slots := 0, locals := 86 } s m args below meth c H locs 0 0 Q (F0 m 88 ls [.int z50277, .ref b50278]) := by
    intro z50276 z50277 b50278 F H locs ls rz50276 rz50277 mb50278 gb50278 r9s50274 r9s50275 hT hfr hl
    refine t_cVi (n := 1) (C := RX11) (T := TX11) (N := 16) (As := [.int z50277]) (rest := []) X hT (kt56_X11_answer l G tag L F hT.2.2.2 b50278 z50277 mb50278 gb50278) mb50278 gb50278 rfl rfl qw_463 qw_464 qw_465 qw_2 qw_466 ⟨rfl, by decide +kernel, by decide +kernel, by decide +kernel⟩ ⟨Nat.le_of_ble_eq_true rfl, Nat.le_of_ble_eq_true rfl⟩ hl rfl rfl (Nat.le_of_ble_eq_true rfl) dX11_surely_88 ⟨Nat.le_of_ble_eq_true rfl, Nat.le_of_ble_eq_true rfl⟩ (fun z50279 F H locs hT hz50279 => ?_)
    obtain ⟨hz50279, yz50279⟩ := hz50279
    have hfr : (∀ b j : Nat, (tag b ≠ 22 ∨ j ≠ 2) → (tag b ≠ 26 ∨ j ≠ 13) → fld F b j = fld Fo b j) ∧ EF tag F Fo := ⟨fun b j n22_2 n26_13 => (yz50279.1 b j n26_13).trans (hfr.1 b j n22_2 n26_13), fun b j hb => (yz50279.2 b j hb).trans (hfr.2 b j hb)⟩
    exact t_iret hQ X hT (⟨rg_all _, hfr⟩) (Nat.le_of_ble_eq_true rfl) (Nat.le_of_ble_eq_true rfl) dX11_surely_91
  have K87 : ∀ (z50282 : Int32) (b50283 : Nat) (F : Nat → va_E) (H : Heap) (locs : List Loc) (ls : Array Slot), (0 ≤ z50282.toInt ∧ z50282.toInt ≤ 1) → (b50283 ∈ L) → (tag b50283 = 26) → (0 ≤ p1.toInt ∧ p1.toInt ≤ 5) → (0 ≤ p2.toInt ∧ p2.toInt ≤ 5) → TH G ttC A s tag L F H locs → ((∀ b j : Nat, (tag b ≠ 22 ∨ j ≠ 2) → (tag b ≠ 26 ∨ j ≠ 13) → fld F b j = fld Fo b j) ∧ EF tag F Fo) → lv_has ls 4 [(0, .ref p0), (1, .int p1), (2, .int p2), (3, .int z50282)] → W p l e { frames := 4, cells := 0, slots := 0, locals := 86 } s m args below meth c H locs 0 0 Q (F0 m 87 ls [.ref b50283]) := by
    intro z50282 b50283 F H locs ls rz50282 mb50283 gb50283 r9s50280 r9s50281 hT hfr hl
    refine lv_iconst (v := 0) hx hb dX11_surely_87 (by decide) ?_
    exact K88 z50282 0 b50283 _ _ _ _ (by omega) (by decide) mb50283 gb50283 (by omega) (by omega) hT hfr  (lv_sub hl [0, 1, 2, 3] rfl)
  have K67 : ∀ (z50286 : Int32) (F : Nat → va_E) (H : Heap) (locs : List Loc) (ls : Array Slot), (0 ≤ z50286.toInt ∧ z50286.toInt ≤ 1) → (0 ≤ p1.toInt ∧ p1.toInt ≤ 5) → (0 ≤ p2.toInt ∧ p2.toInt ≤ 5) → TH G ttC A s tag L F H locs → ((∀ b j : Nat, (tag b ≠ 22 ∨ j ≠ 2) → (tag b ≠ 26 ∨ j ≠ 13) → fld F b j = fld Fo b j) ∧ EF tag F Fo) → lv_has ls 4 [(0, .ref p0), (1, .int p1), (2, .int p2)] → W p l e { frames := 4, cells := 0, slots := 0, locals := 86 } s m args below meth c H locs 0 0 Q (F0 m 67 ls [.int z50286]) := by
    intro z50286 F H locs ls rz50286 r9s50284 r9s50285 hT hfr hl
    refine lv_istore_n (lv' := [(3, .int z50286), (0, .ref p0), (1, .int p1), (2, .int p2)]) hx hb dX11_surely_67 rfl hl (by decide) rfl (fun ls hl => ?_)
    refine lv_aload_n hx hb dX11_surely_68 rfl (lv_at hl 1 rfl) ?_
    refine lv_aload_n hx hb dX11_surely_69 rfl (lv_at hl 1 rfl) ?_
    refine t_get (C := RX11) (T := TX11) (N := 16) X hT m0 g0 rfl rfl 11 (by decide) qw_41 inlX11 rfl dX11_surely_70 (fun v50287 hv50287 ov50287 => ?_)
    obtain ⟨b50288, rfl, mb50288, gb50288⟩ := okV_r ov50287
    have gb50288 : tag b50288 = 22 := tg_of gb50288
    refine t_get (C := RX9) (T := TX9) (N := 6) X hT mb50288 gb50288 rfl rfl 2 (by decide) qw_1332 inlX9 rfl dX11_surely_73 (fun v50289 hv50289 ov50289 => ?_)
    obtain ⟨z50290, rfl, rz50290⟩ := okV_i ov50289
    refine lv_if_le (tgt := 87) hx hb dX11_surely_76 (by decide) (fun c50291 => ?_) (fun c50291 => ?_)
    · have w50292 := cv_le (rfl : z50290.toInt = z50290.toInt) (by decide : (0 : Int32).toInt = 0) c50291
      exact K87 z50286 p0 _ _ _ _ (by omega) m0 g0 (by omega) (by omega) hT hfr  (lv_sub hl [1, 2, 3, 0] rfl)
    · have w50293 := cv_nle (rfl : z50290.toInt = z50290.toInt) (by decide : (0 : Int32).toInt = 0) c50291
      refine lv_iload_n hx hb dX11_surely_79 rfl (lv_at hl 0 rfl) ?_
      refine lv_if_eq (tgt := 87) hx hb dX11_surely_80 (by decide) (fun c50294 => ?_) (fun c50294 => ?_)
      · have w50295 := cv_eq (rfl : z50286.toInt = z50286.toInt) (by decide : (0 : Int32).toInt = 0) c50294
        exact K87 z50286 p0 _ _ _ _ (by omega) m0 g0 (by omega) (by omega) hT hfr  (lv_sub hl [1, 2, 3, 0] rfl)
      · have w50296 := cv_ne (rfl : z50286.toInt = z50286.toInt) (by decide : (0 : Int32).toInt = 0) c50294
        refine lv_iconst (v := 1) hx hb dX11_surely_83 (by decide) ?_
        refine lv_goto (tgt := 88) hx hb dX11_surely_84 (by decide) ?_
        exact K88 z50286 1 p0 _ _ _ _ (by omega) (by decide) m0 g0 (by omega) (by omega) hT hfr  (lv_sub hl [1, 2, 3, 0] rfl)
  refine lv_aload_n hx hb dX11_surely_0 rfl (lv_at hl 0 rfl) ?_
  refine lv_iload_n hx hb dX11_surely_1 rfl (lv_at hl 1 rfl) ?_
  refine t_cVi (n := 1) (C := RX11) (T := TX11) (N := 16) (As := [.int p1]) (rest := []) X hT (kt92_X11_isWall l G tag L F hT.2.2.2 p0 p1 m0 g0) m0 g0 rfl rfl qw_1379 qw_1380 qw_1381 qw_2 qw_1382 ⟨rfl, by decide +kernel, by decide +kernel, by decide +kernel⟩ ⟨Nat.le_of_ble_eq_true rfl, Nat.le_of_ble_eq_true rfl⟩ hl rfl rfl (Nat.le_of_ble_eq_true rfl) dX11_surely_2 ⟨Nat.le_of_ble_eq_true rfl, Nat.le_of_ble_eq_true rfl⟩ (fun z50297 F9 H locs hT hz50297 => ?_)
  obtain ⟨fz50297, hz50297⟩ := hz50297
  rw [fz50297] at hT
  obtain ⟨hz50297, iz50297⟩ := hz50297
  refine lv_if_eq (tgt := 21) hx hb dX11_surely_5 (by decide) (fun c50298 => ?_) (fun c50298 => ?_)
  · have w50299 := cv_eq (rfl : z50297.toInt = z50297.toInt) (by decide : (0 : Int32).toInt = 0) c50298
    exact K21  _ _ _ _  hT hfr  (lv_sub hl [0, 1, 2] rfl)
  · have w50300 := cv_ne (rfl : z50297.toInt = z50297.toInt) (by decide : (0 : Int32).toInt = 0) c50298
    have w50301 := (fun h => (iz50297 h)) (by omega)
    refine lv_aload_n hx hb dX11_surely_8 rfl (lv_at hl 0 rfl) ?_
    refine lv_iload_n hx hb dX11_surely_9 rfl (lv_at hl 2 rfl) ?_
    refine t_cVi (n := 1) (C := RX11) (T := TX11) (N := 16) (As := [.int p2]) (rest := []) X hT (kt92_X11_isWall l G tag L F hT.2.2.2 p0 p2 m0 g0) m0 g0 rfl rfl qw_1379 qw_1380 qw_1381 qw_2 qw_1382 ⟨rfl, by decide +kernel, by decide +kernel, by decide +kernel⟩ ⟨Nat.le_of_ble_eq_true rfl, Nat.le_of_ble_eq_true rfl⟩ hl rfl rfl (Nat.le_of_ble_eq_true rfl) dX11_surely_10 ⟨Nat.le_of_ble_eq_true rfl, Nat.le_of_ble_eq_true rfl⟩ (fun z50302 F9 H locs hT hz50302 => ?_)
    obtain ⟨fz50302, hz50302⟩ := hz50302
    rw [fz50302] at hT
    obtain ⟨hz50302, iz50302⟩ := hz50302
    refine lv_if_eq (tgt := 21) hx hb dX11_surely_13 (by decide) (fun c50303 => ?_) (fun c50303 => ?_)
    · have w50304 := cv_eq (rfl : z50302.toInt = z50302.toInt) (by decide : (0 : Int32).toInt = 0) c50303
      exact K21  _ _ _ _  hT hfr  (lv_sub hl [0, 1, 2] rfl)
    · have w50305 := cv_ne (rfl : z50302.toInt = z50302.toInt) (by decide : (0 : Int32).toInt = 0) c50303
      have w50306 := (fun h => (iz50302 h)) (by omega)
      refine lv_iload_n hx hb dX11_surely_16 rfl (lv_at hl 1 rfl) ?_
      refine lv_iload_n hx hb dX11_surely_17 rfl (lv_at hl 2 rfl) ?_
      refine lv_icmp_ne (tgt := 27) hx hb dX11_surely_18 (by decide) (fun c50307 => ?_) (fun c50307 => ?_)
      · have w50308 := cv_ne (rfl : p1.toInt = p1.toInt) (rfl : p2.toInt = p2.toInt) c50307
        refine lv_aload_n hx hb dX11_surely_27 rfl (lv_at hl 0 rfl) ?_
        refine t_get (C := RX11) (T := TX11) (N := 16) X hT m0 g0 rfl rfl 11 (by decide) qw_41 inlX11 rfl dX11_surely_28 (fun v50309 hv50309 ov50309 => ?_)
        obtain ⟨b50310, rfl, mb50310, gb50310⟩ := okV_r ov50309
        have gb50310 : tag b50310 = 22 := tg_of gb50310
        refine lv_aload_n hx hb dX11_surely_31 rfl (lv_at hl 0 rfl) ?_
        refine t_get (C := RX11) (T := TX11) (N := 16) X hT m0 g0 rfl rfl 3 (by decide) qw_18 inlX11 rfl dX11_surely_32 (fun v50311 hv50311 ov50311 => ?_)
        obtain ⟨b50312, rfl, mb50312, gb50312⟩ := okV_r ov50311
        have gb50312 : tag b50312 = 18 := tg_of gb50312
        refine lv_aload_n hx hb dX11_surely_35 rfl (lv_at hl 0 rfl) ?_
        refine t_get (C := RX11) (T := TX11) (N := 16) X hT m0 g0 rfl rfl 5 (by decide) qw_23 inlX11 rfl dX11_surely_36 (fun v50313 hv50313 ov50313 => ?_)
        obtain ⟨b50314, rfl, mb50314, gb50314⟩ := okV_r ov50313
        have gb50314 : tag b50314 = 19 := tg_of gb50314
        refine t_get (C := RX7) (T := TX7) (N := 7) X hT mb50314 gb50314 rfl rfl 0 (by decide) qw_1225 inlX7 rfl dX11_surely_39 (fun v50315 hv50315 ov50315 => ?_)
        obtain ⟨z50316, rfl, rz50316⟩ := okV_i ov50315
        refine t_cVv (n := 2) (C := RX9) (T := TX9) (N := 6) (As := [.ref b50312, .int z50316]) (rest := []) X hT (kt107_X9_lookAtAll l G tag L F hT.2.2.2 b50310 b50312 z50316 mb50310 gb50310 mb50312 gb50312) mb50310 gb50310 rfl rfl qw_1333 qw_1334 qw_1335 qw_40 qw_1336 ⟨rfl, by decide +kernel, by decide +kernel, by decide +kernel⟩ ⟨Nat.le_of_ble_eq_true rfl, Nat.le_of_ble_eq_true rfl⟩ hl rfl rfl (Nat.le_of_ble_eq_true rfl) dX11_surely_42 ⟨Nat.le_of_ble_eq_true rfl, Nat.le_of_ble_eq_true rfl⟩ (fun F H locs hT hz50317 => ?_)
        have yz50317 := hz50317
        have hv50309 := (yz50317.1 _ 11 (Or.inr (by decide))).trans hv50309
        have hv50311 := (yz50317.1 _ 3 (Or.inr (by decide))).trans hv50311
        have hv50313 := (yz50317.1 _ 5 (Or.inr (by decide))).trans hv50313
        have hv50315 := (yz50317.1 _ 0 (Or.inr (by decide))).trans hv50315
        have hfr : (∀ b j : Nat, (tag b ≠ 22 ∨ j ≠ 2) → (tag b ≠ 26 ∨ j ≠ 13) → fld F b j = fld Fo b j) ∧ EF tag F Fo := ⟨fun b j n22_2 n26_13 => (yz50317.1 b j n22_2).trans (hfr.1 b j n22_2 n26_13), fun b j hb => (yz50317.2 b j hb).trans (hfr.2 b j hb)⟩
        refine lv_aload_n hx hb dX11_surely_45 rfl (lv_at hl 0 rfl) ?_
        refine t_get (C := RX11) (T := TX11) (N := 16) X hT m0 g0 rfl rfl 11 (by decide) qw_41 inlX11 rfl dX11_surely_46 (fun v50318 hv50318 ov50318 => ?_)
        obtain rfl : v50318 = .ref b50310 := hv50318.symm.trans hv50309
        refine t_get (C := RX9) (T := TX9) (N := 6) X hT mb50310 gb50310 rfl rfl 5 (by decide) qw_1418 inlX9 rfl dX11_surely_49 (fun v50319 hv50319 ov50319 => ?_)
        obtain ⟨b50320, rfl, mb50320, gb50320⟩ := okV_r ov50319
        have gb50320 : tag b50320 = 7 := tg_of gb50320
        refine lv_iload_n hx hb dX11_surely_52 rfl (lv_at hl 2 rfl) ?_
        refine t_ild X hT mb50320 gb50320 rfl (by omega) dX11_surely_53 (fun z50321 vz50321 rz50321 => ?_)
        have rz50321 : (-2147483648) ≤ z50321.toInt ∧ z50321.toInt ≤ 2147483647 := rz50321
        refine lv_iload_n hx hb dX11_surely_54 rfl (lv_at hl 1 rfl) ?_
        refine lv_ishr hx hb dX11_surely_55 ?_
        refine lv_topi (fun z50322 ez50322 => ?_)
        have rz50322 := rg_all z50322
        refine lv_iconst (v := 1) hx hb dX11_surely_56 (by decide) ?_
        refine lv_iand hx hb dX11_surely_57 ?_
        refine lv_topi (fun z50323 ez50323 => ?_)
        have rz50323 : 0 ≤ z50323.toInt ∧ z50323.toInt ≤ 1 := ar_and ez50323 1 (by decide) (by decide)
        refine lv_iconst (v := 1) hx hb dX11_surely_58 (by decide) ?_
        refine lv_icmp_ne (tgt := 66) hx hb dX11_surely_59 (by decide) (fun c50324 => ?_) (fun c50324 => ?_)
        · have w50325 := cv_ne (rfl : z50323.toInt = z50323.toInt) (by decide : (1 : Int32).toInt = 1) c50324
          refine lv_iconst (v := 0) hx hb dX11_surely_66 (by decide) ?_
          exact K67 0 _ _ _ _ (by decide) (by omega) (by omega) hT hfr  (lv_sub hl [0, 1, 2] rfl)
        · have w50326 := cv_eq (rfl : z50323.toInt = z50323.toInt) (by decide : (1 : Int32).toInt = 1) c50324
          refine lv_iconst (v := 1) hx hb dX11_surely_62 (by decide) ?_
          refine lv_goto (tgt := 67) hx hb dX11_surely_63 (by decide) ?_
          exact K67 1 _ _ _ _ (by decide) (by omega) (by omega) hT hfr  (lv_sub hl [0, 1, 2] rfl)
      · have w50327 := cv_eq (rfl : p1.toInt = p1.toInt) (rfl : p2.toInt = p2.toInt) c50307
        exact K21  _ _ _ _  hT hfr  (lv_sub hl [0, 1, 2] rfl)
set_option maxHeartbeats 4000000 in
set_option maxRecDepth 100000 in
theorem kt131_X11_take (l : Launch) (G : KG) (tag : Nat → Nat) (L : List Nat) (Fo : Nat → va_E) (ho : okT G ttC tag L Fo) (p0 : Nat) (p1 : Int32) (m0 : p0 ∈ L) (g0 : tag p0 = 26) : TMi l yX11_take cX11_take 4 (some .int) { frames := 3, cells := 0, slots := 0, locals := 68 } G ttC tag L Fo [.ref p0, .int p1] (fun r F1 => ((-2147483648) ≤ r.toInt ∧ r.toInt ≤ 2147483647) ∧ ((∀ b j : Nat, (tag b ≠ 19 ∨ j ≠ 0) → (tag b ≠ 19 ∨ j ≠ 1) → (tag b ≠ 23 ∨ j ≠ 2) → (tag b ≠ 23 ∨ j ≠ 3) → (tag b ≠ 26 ∨ j ≠ 13) → fld F1 b j = fld Fo b j) ∧ EF tag F1 Fo)) := by
  refine t_bodyi (y := yX11_take) (cd := cX11_take) (mL := 4) (rt := (some .int)) (rm := { frames := 3, cells := 0, slots := 0, locals := 68 }) (av := [.ref p0, .int p1]) (by decide) (Nat.le_of_ble_eq_true rfl) ho ?_
  intro p e s m args below meth c ls A Q hQ X hT hl
  have hx := X.1.1
  have hb := X.1.2.1
  have hl : lv_has ls 4 [(0, .ref p0), (1, .int p1)] := hl
  have rp1 := rg_all p1
  obtain ⟨F, hFo⟩ : ∃ F : Nat → va_E, F = Fo := ⟨_, rfl⟩
  rw [← hFo] at hT
  have hfr : (∀ b j : Nat, (tag b ≠ 19 ∨ j ≠ 0) → (tag b ≠ 19 ∨ j ≠ 1) → (tag b ≠ 23 ∨ j ≠ 2) → (tag b ≠ 23 ∨ j ≠ 3) → (tag b ≠ 26 ∨ j ≠ 13) → fld F b j = fld Fo b j) ∧ EF tag F Fo := by
    rw [hFo]
    exact ⟨by intros; rfl, fun _ _ _ => rfl⟩
  refine lv_aload_n hx hb dX11_take_0 rfl (lv_at hl 0 rfl) ?_
  refine lv_iload_n hx hb dX11_take_1 rfl (lv_at hl 1 rfl) ?_
  refine t_cVi (n := 1) (C := RX11) (T := TX11) (N := 16) (As := [.int p1]) (rest := []) X hT (kt61_X11_isHouse l G tag L F hT.2.2.2 p0 p1 m0 g0) m0 g0 rfl rfl qw_770 qw_771 qw_772 qw_2 qw_773 ⟨rfl, by decide +kernel, by decide +kernel, by decide +kernel⟩ ⟨Nat.le_of_ble_eq_true rfl, Nat.le_of_ble_eq_true rfl⟩ hl rfl rfl (Nat.le_of_ble_eq_true rfl) dX11_take_2 ⟨Nat.le_of_ble_eq_true rfl, Nat.le_of_ble_eq_true rfl⟩ (fun z50735 F9 H locs hT hz50735 => ?_)
  obtain ⟨fz50735, hz50735⟩ := hz50735
  rw [fz50735] at hT
  obtain ⟨hz50735, iz50735⟩ := hz50735
  refine lv_if_ne (tgt := 14) hx hb dX11_take_5 (by decide) (fun c50736 => ?_) (fun c50736 => ?_)
  · have w50737 := cv_ne (rfl : z50735.toInt = z50735.toInt) (by decide : (0 : Int32).toInt = 0) c50736
    have w50738 := (fun h => (iz50735 h)) (by omega)
    refine lv_aload_n hx hb dX11_take_14 rfl (lv_at hl 0 rfl) ?_
    refine t_get (C := RX11) (T := TX11) (N := 16) X hT m0 g0 rfl rfl 5 (by decide) qw_23 inlX11 rfl dX11_take_15 (fun v50739 hv50739 ov50739 => ?_)
    obtain ⟨b50740, rfl, mb50740, gb50740⟩ := okV_r ov50739
    have gb50740 : tag b50740 = 19 := tg_of gb50740
    refine lv_iload_n hx hb dX11_take_18 rfl (lv_at hl 1 rfl) ?_
    refine t_cVi (n := 1) (C := RX7) (T := TX7) (N := 7) (As := [.int p1]) (rest := []) X hT (kt21_X7_inmost l G tag L F hT.2.2.2 b50740 p1 mb50740 gb50740 (by omega)) mb50740 gb50740 rfl rfl qw_1292 qw_1293 qw_1294 qw_22 qw_1295 ⟨rfl, by decide +kernel, by decide +kernel, by decide +kernel⟩ ⟨Nat.le_of_ble_eq_true rfl, Nat.le_of_ble_eq_true rfl⟩ hl rfl rfl (Nat.le_of_ble_eq_true rfl) dX11_take_19 ⟨Nat.le_of_ble_eq_true rfl, Nat.le_of_ble_eq_true rfl⟩ (fun z50741 F9 H locs hT hz50741 => ?_)
    obtain ⟨fz50741, hz50741⟩ := hz50741
    rw [fz50741] at hT
    refine lv_istore_n (lv' := [(2, .int z50741), (0, .ref p0), (1, .int p1)]) hx hb dX11_take_22 rfl hl (by decide) rfl (fun ls hl => ?_)
    refine lv_iload_n hx hb dX11_take_23 rfl (lv_at hl 0 rfl) ?_
    refine lv_if_ne (tgt := 34) hx hb dX11_take_24 (by decide) (fun c50742 => ?_) (fun c50742 => ?_)
    · have w50743 := cv_ne (rfl : z50741.toInt = z50741.toInt) (by decide : (0 : Int32).toInt = 0) c50742
      refine lv_aload_n hx hb dX11_take_34 rfl (lv_at hl 1 rfl) ?_
      refine lv_iload_n hx hb dX11_take_35 rfl (lv_at hl 2 rfl) ?_
      refine lv_iload_n hx hb dX11_take_36 rfl (lv_at hl 0 rfl) ?_
      refine t_cVi (n := 2) (C := RX11) (T := TX11) (N := 16) (As := [.int p1, .int z50741]) (rest := []) X hT (kt76_X11_isLivedIn l G tag L F hT.2.2.2 p0 p1 z50741 m0 g0) m0 g0 rfl rfl qw_1316 qw_1317 qw_1318 qw_2 qw_1319 ⟨rfl, by decide +kernel, by decide +kernel, by decide +kernel⟩ ⟨Nat.le_of_ble_eq_true rfl, Nat.le_of_ble_eq_true rfl⟩ hl rfl rfl (Nat.le_of_ble_eq_true rfl) dX11_take_37 ⟨Nat.le_of_ble_eq_true rfl, Nat.le_of_ble_eq_true rfl⟩ (fun z50744 F9 H locs hT hz50744 => ?_)
      obtain ⟨fz50744, hz50744⟩ := hz50744
      rw [fz50744] at hT
      refine lv_if_eq (tgt := 49) hx hb dX11_take_40 (by decide) (fun c50745 => ?_) (fun c50745 => ?_)
      · have w50746 := cv_eq (rfl : z50744.toInt = z50744.toInt) (by decide : (0 : Int32).toInt = 0) c50745
        refine lv_aload_n hx hb dX11_take_49 rfl (lv_at hl 1 rfl) ?_
        refine t_get (C := RX11) (T := TX11) (N := 16) X hT m0 g0 rfl rfl 12 (by decide) qw_45 inlX11 rfl dX11_take_50 (fun v50747 hv50747 ov50747 => ?_)
        obtain ⟨b50748, rfl, mb50748, gb50748⟩ := okV_r ov50747
        have gb50748 : tag b50748 = 23 := tg_of gb50748
        refine lv_aload_n hx hb dX11_take_53 rfl (lv_at hl 1 rfl) ?_
        refine t_get (C := RX11) (T := TX11) (N := 16) X hT m0 g0 rfl rfl 5 (by decide) qw_23 inlX11 rfl dX11_take_54 (fun v50749 hv50749 ov50749 => ?_)
        obtain rfl : v50749 = .ref b50740 := hv50749.symm.trans hv50739
        refine t_cVv (n := 1) (C := RX2) (T := TX2) (N := 5) (As := [.ref b50740]) (rest := []) X hT (kt66_X2_keep l G tag L F hT.2.2.2 b50748 b50740 mb50748 gb50748 mb50740 gb50740) mb50748 gb50748 rfl rfl qw_1427 qw_1428 qw_1429 qw_44 qw_1430 ⟨rfl, by decide +kernel, by decide +kernel, by decide +kernel⟩ ⟨Nat.le_of_ble_eq_true rfl, Nat.le_of_ble_eq_true rfl⟩ hl rfl rfl (Nat.le_of_ble_eq_true rfl) dX11_take_57 ⟨Nat.le_of_ble_eq_true rfl, Nat.le_of_ble_eq_true rfl⟩ (fun F H locs hT hz50750 => ?_)
        have yz50750 := hz50750
        have hv50739 := (yz50750.1 _ 5 (Or.inr (by decide)) (Or.inr (by decide)) (Or.inr (by decide)) (Or.inr (by decide))).trans hv50739
        have hv50747 := (yz50750.1 _ 12 (Or.inr (by decide)) (Or.inr (by decide)) (Or.inr (by decide)) (Or.inr (by decide))).trans hv50747
        have hfr : (∀ b j : Nat, (tag b ≠ 19 ∨ j ≠ 0) → (tag b ≠ 19 ∨ j ≠ 1) → (tag b ≠ 23 ∨ j ≠ 2) → (tag b ≠ 23 ∨ j ≠ 3) → (tag b ≠ 26 ∨ j ≠ 13) → fld F b j = fld Fo b j) ∧ EF tag F Fo := ⟨fun b j n19_0 n19_1 n23_2 n23_3 n26_13 => (yz50750.1 b j n19_0 n19_1 n23_2 n23_3).trans (hfr.1 b j n19_0 n19_1 n23_2 n23_3 n26_13), fun b j hb => (yz50750.2 b j hb).trans (hfr.2 b j hb)⟩
        refine lv_aload_n hx hb dX11_take_60 rfl (lv_at hl 1 rfl) ?_
        refine lv_iload_n hx hb dX11_take_61 rfl (lv_at hl 2 rfl) ?_
        refine lv_iload_n hx hb dX11_take_62 rfl (lv_at hl 0 rfl) ?_
        refine t_cVi (n := 2) (C := RX11) (T := TX11) (N := 16) (As := [.int p1, .int z50741]) (rest := []) X hT (kt84_X11_goldIn l G tag L F hT.2.2.2 p0 p1 z50741 m0 g0) m0 g0 rfl rfl qw_1296 qw_1297 qw_1298 qw_2 qw_1299 ⟨rfl, by decide +kernel, by decide +kernel, by decide +kernel⟩ ⟨Nat.le_of_ble_eq_true rfl, Nat.le_of_ble_eq_true rfl⟩ hl rfl rfl (Nat.le_of_ble_eq_true rfl) dX11_take_63 ⟨Nat.le_of_ble_eq_true rfl, Nat.le_of_ble_eq_true rfl⟩ (fun z50751 F9 H locs hT hz50751 => ?_)
        obtain ⟨fz50751, hz50751⟩ := hz50751
        rw [fz50751] at hT
        refine lv_istore_n (lv' := [(3, .int z50751), (2, .int z50741), (0, .ref p0), (1, .int p1)]) hx hb dX11_take_66 rfl hl (by decide) rfl (fun ls hl => ?_)
        refine lv_aload_n hx hb dX11_take_67 rfl (lv_at hl 2 rfl) ?_
        refine t_get (C := RX11) (T := TX11) (N := 16) X hT m0 g0 rfl rfl 5 (by decide) qw_23 inlX11 rfl dX11_take_68 (fun v50752 hv50752 ov50752 => ?_)
        obtain rfl : v50752 = .ref b50740 := hv50752.symm.trans hv50739
        refine t_get (C := RX7) (T := TX7) (N := 7) X hT mb50740 gb50740 rfl rfl 4 (by decide) qw_768 inlX7 rfl dX11_take_71 (fun v50753 hv50753 ov50753 => ?_)
        obtain ⟨b50754, rfl, mb50754, gb50754⟩ := okV_r ov50753
        have gb50754 : tag b50754 = 5 := tg_of gb50754
        refine lv_iload_n hx hb dX11_take_74 rfl (lv_at hl 3 rfl) ?_
        refine lv_sipush (v := 999) hx hb dX11_take_75 (by decide) ?_
        refine lv_aload_n hx hb dX11_take_78 rfl (lv_at hl 2 rfl) ?_
        refine t_get (C := RX11) (T := TX11) (N := 16) X hT m0 g0 rfl rfl 5 (by decide) qw_23 inlX11 rfl dX11_take_79 (fun v50755 hv50755 ov50755 => ?_)
        obtain rfl : v50755 = .ref b50740 := hv50755.symm.trans hv50739
        refine t_get (C := RX7) (T := TX7) (N := 7) X hT mb50740 gb50740 rfl rfl 4 (by decide) qw_768 inlX7 rfl dX11_take_82 (fun v50756 hv50756 ov50756 => ?_)
        obtain rfl : v50756 = .ref b50754 := hv50756.symm.trans hv50753
        refine lv_iload_n hx hb dX11_take_85 rfl (lv_at hl 3 rfl) ?_
        refine t_ild X hT mb50754 gb50754 rfl (by omega) dX11_take_86 (fun z50757 vz50757 rz50757 => ?_)
        have rz50757 : (-2147483648) ≤ z50757.toInt ∧ z50757.toInt ≤ 2147483647 := rz50757
        refine lv_iload_n hx hb dX11_take_87 rfl (lv_at hl 0 rfl) ?_
        refine lv_iadd hx hb dX11_take_88 ?_
        refine lv_topi (fun z50758 ez50758 => ?_)
        have rz50758 := rg_all z50758
        refine t_mmin X hl qw_1480 qw_1018 qw_850 qw_1019 (Nat.le_of_ble_eq_true rfl) (Nat.le_of_ble_eq_true rfl) (Nat.le_of_ble_eq_true rfl) (Nat.le_of_ble_eq_true rfl) dX11_take_89 (fun z50759 ez50759 => ?_)
        have hz50759 := mmin_e ez50759 (by decide : (999 : Int32).toInt = 999) (rfl : z50758.toInt = z50758.toInt)
        refine t_ist X hT mb50754 gb50754 rfl (by omega) (show (-2147483648) ≤ (z50759 : Int32).toInt ∧ (z50759 : Int32).toInt ≤ 2147483647 from (by omega)) dX11_take_92 (fun F H locs hT v50760 h1v50760 h2v50760 => ?_)
        have hv50739 := (h2v50760 _ _).trans hv50739
        have hv50747 := (h2v50760 _ _).trans hv50747
        have hv50753 := (h2v50760 _ _).trans hv50753
        have hfr : (∀ b j : Nat, (tag b ≠ 19 ∨ j ≠ 0) → (tag b ≠ 19 ∨ j ≠ 1) → (tag b ≠ 23 ∨ j ≠ 2) → (tag b ≠ 23 ∨ j ≠ 3) → (tag b ≠ 26 ∨ j ≠ 13) → fld F b j = fld Fo b j) ∧ EF tag F Fo := ⟨fun b j n19_0 n19_1 n23_2 n23_3 n26_13 => (h2v50760 b j).trans (hfr.1 b j n19_0 n19_1 n23_2 n23_3 n26_13), fun b j hb => (h1v50760 b j (Or.inl (ns_ne hb gb50754 (by decide)))).trans (hfr.2 b j hb)⟩
        refine lv_aload_n hx hb dX11_take_93 rfl (lv_at hl 2 rfl) ?_
        refine t_get (C := RX11) (T := TX11) (N := 16) X hT m0 g0 rfl rfl 5 (by decide) qw_23 inlX11 rfl dX11_take_94 (fun v50761 hv50761 ov50761 => ?_)
        obtain rfl : v50761 = .ref b50740 := hv50761.symm.trans hv50739
        refine lv_iload_n hx hb dX11_take_97 rfl (lv_at hl 3 rfl) ?_
        refine lv_iload_n hx hb dX11_take_98 rfl (lv_at hl 1 rfl) ?_
        refine lv_iconst (v := 5) hx hb dX11_take_99 (by decide) ?_
        refine lv_iconst (v := 1) hx hb dX11_take_100 (by decide) ?_
        refine t_cVv (n := 4) (C := RX7) (T := TX7) (N := 7) (As := [.int p1, .int z50741, .int 5, .int 1]) (rest := []) X hT (kt16_X7_setPart l G tag L F hT.2.2.2 b50740 p1 z50741 5 1 mb50740 gb50740) mb50740 gb50740 rfl rfl qw_1459 qw_423 qw_424 qw_22 qw_425 ⟨rfl, by decide +kernel, by decide +kernel, by decide +kernel⟩ ⟨Nat.le_of_ble_eq_true rfl, Nat.le_of_ble_eq_true rfl⟩ hl rfl rfl (Nat.le_of_ble_eq_true rfl) dX11_take_101 ⟨Nat.le_of_ble_eq_true rfl, Nat.le_of_ble_eq_true rfl⟩ (fun F H locs hT hz50762 => ?_)
        have yz50762 := hz50762
        have hv50739 := (yz50762.1 _ 5 ).trans hv50739
        have hv50747 := (yz50762.1 _ 12 ).trans hv50747
        have hv50753 := (yz50762.1 _ 4 ).trans hv50753
        have hfr : (∀ b j : Nat, (tag b ≠ 19 ∨ j ≠ 0) → (tag b ≠ 19 ∨ j ≠ 1) → (tag b ≠ 23 ∨ j ≠ 2) → (tag b ≠ 23 ∨ j ≠ 3) → (tag b ≠ 26 ∨ j ≠ 13) → fld F b j = fld Fo b j) ∧ EF tag F Fo := ⟨fun b j n19_0 n19_1 n23_2 n23_3 n26_13 => (yz50762.1 b j ).trans (hfr.1 b j n19_0 n19_1 n23_2 n23_3 n26_13), fun b j hb => (yz50762.2 b j hb).trans (hfr.2 b j hb)⟩
        refine lv_aload_n hx hb dX11_take_104 rfl (lv_at hl 2 rfl) ?_
        refine t_get (C := RX11) (T := TX11) (N := 16) X hT m0 g0 rfl rfl 5 (by decide) qw_23 inlX11 rfl dX11_take_105 (fun v50763 hv50763 ov50763 => ?_)
        obtain rfl : v50763 = .ref b50740 := hv50763.symm.trans hv50739
        refine lv_iload_n hx hb dX11_take_108 rfl (lv_at hl 3 rfl) ?_
        refine lv_iload_n hx hb dX11_take_109 rfl (lv_at hl 1 rfl) ?_
        refine lv_bipush (v := 6) hx hb dX11_take_110 (by decide) ?_
        refine lv_iconst (v := 0) hx hb dX11_take_112 (by decide) ?_
        refine t_cVv (n := 4) (C := RX7) (T := TX7) (N := 7) (As := [.int p1, .int z50741, .int 6, .int 0]) (rest := []) X hT (kt16_X7_setPart l G tag L F hT.2.2.2 b50740 p1 z50741 6 0 mb50740 gb50740) mb50740 gb50740 rfl rfl qw_1459 qw_423 qw_424 qw_22 qw_425 ⟨rfl, by decide +kernel, by decide +kernel, by decide +kernel⟩ ⟨Nat.le_of_ble_eq_true rfl, Nat.le_of_ble_eq_true rfl⟩ hl rfl rfl (Nat.le_of_ble_eq_true rfl) dX11_take_113 ⟨Nat.le_of_ble_eq_true rfl, Nat.le_of_ble_eq_true rfl⟩ (fun F H locs hT hz50764 => ?_)
        have yz50764 := hz50764
        have hv50739 := (yz50764.1 _ 5 ).trans hv50739
        have hv50747 := (yz50764.1 _ 12 ).trans hv50747
        have hv50753 := (yz50764.1 _ 4 ).trans hv50753
        have hfr : (∀ b j : Nat, (tag b ≠ 19 ∨ j ≠ 0) → (tag b ≠ 19 ∨ j ≠ 1) → (tag b ≠ 23 ∨ j ≠ 2) → (tag b ≠ 23 ∨ j ≠ 3) → (tag b ≠ 26 ∨ j ≠ 13) → fld F b j = fld Fo b j) ∧ EF tag F Fo := ⟨fun b j n19_0 n19_1 n23_2 n23_3 n26_13 => (yz50764.1 b j ).trans (hfr.1 b j n19_0 n19_1 n23_2 n23_3 n26_13), fun b j hb => (yz50764.2 b j hb).trans (hfr.2 b j hb)⟩
        refine lv_aload_n hx hb dX11_take_116 rfl (lv_at hl 2 rfl) ?_
        refine lv_iload_n hx hb dX11_take_117 rfl (lv_at hl 0 rfl) ?_
        refine t_cVi (n := 1) (C := RX11) (T := TX11) (N := 16) (As := [.int z50751]) (rest := []) X hT (kt56_X11_answer l G tag L F hT.2.2.2 p0 z50751 m0 g0) m0 g0 rfl rfl qw_463 qw_464 qw_465 qw_2 qw_466 ⟨rfl, by decide +kernel, by decide +kernel, by decide +kernel⟩ ⟨Nat.le_of_ble_eq_true rfl, Nat.le_of_ble_eq_true rfl⟩ hl rfl rfl (Nat.le_of_ble_eq_true rfl) dX11_take_118 ⟨Nat.le_of_ble_eq_true rfl, Nat.le_of_ble_eq_true rfl⟩ (fun z50765 F H locs hT hz50765 => ?_)
        obtain ⟨hz50765, yz50765⟩ := hz50765
        have hv50739 := (yz50765.1 _ 5 (Or.inr (by decide))).trans hv50739
        have hv50747 := (yz50765.1 _ 12 (Or.inr (by decide))).trans hv50747
        have hv50753 := (yz50765.1 _ 4 (Or.inr (by decide))).trans hv50753
        have hfr : (∀ b j : Nat, (tag b ≠ 19 ∨ j ≠ 0) → (tag b ≠ 19 ∨ j ≠ 1) → (tag b ≠ 23 ∨ j ≠ 2) → (tag b ≠ 23 ∨ j ≠ 3) → (tag b ≠ 26 ∨ j ≠ 13) → fld F b j = fld Fo b j) ∧ EF tag F Fo := ⟨fun b j n19_0 n19_1 n23_2 n23_3 n26_13 => (yz50765.1 b j n26_13).trans (hfr.1 b j n19_0 n19_1 n23_2 n23_3 n26_13), fun b j hb => (yz50765.2 b j hb).trans (hfr.2 b j hb)⟩
        exact t_iret hQ X hT (⟨rg_all _, hfr⟩) (Nat.le_of_ble_eq_true rfl) (Nat.le_of_ble_eq_true rfl) dX11_take_121
      · have w50766 := cv_ne (rfl : z50744.toInt = z50744.toInt) (by decide : (0 : Int32).toInt = 0) c50745
        refine lv_aload_n hx hb dX11_take_43 rfl (lv_at hl 1 rfl) ?_
        refine lv_iconst (v := 5) hx hb dX11_take_44 (by decide) ?_
        refine t_cVi (n := 1) (C := RX11) (T := TX11) (N := 16) (As := [.int 5]) (rest := []) X hT (kt63_X11_refuse l G tag L F hT.2.2.2 p0 5 m0 g0) m0 g0 rfl rfl qw_152 qw_153 qw_154 qw_2 qw_155 ⟨rfl, by decide +kernel, by decide +kernel, by decide +kernel⟩ ⟨Nat.le_of_ble_eq_true rfl, Nat.le_of_ble_eq_true rfl⟩ hl rfl rfl (Nat.le_of_ble_eq_true rfl) dX11_take_45 ⟨Nat.le_of_ble_eq_true rfl, Nat.le_of_ble_eq_true rfl⟩ (fun z50767 F H locs hT hz50767 => ?_)
        obtain ⟨hz50767, yz50767⟩ := hz50767
        have hv50739 := (yz50767.1 _ 5 (Or.inr (by decide))).trans hv50739
        have hfr : (∀ b j : Nat, (tag b ≠ 19 ∨ j ≠ 0) → (tag b ≠ 19 ∨ j ≠ 1) → (tag b ≠ 23 ∨ j ≠ 2) → (tag b ≠ 23 ∨ j ≠ 3) → (tag b ≠ 26 ∨ j ≠ 13) → fld F b j = fld Fo b j) ∧ EF tag F Fo := ⟨fun b j n19_0 n19_1 n23_2 n23_3 n26_13 => (yz50767.1 b j n26_13).trans (hfr.1 b j n19_0 n19_1 n23_2 n23_3 n26_13), fun b j hb => (yz50767.2 b j hb).trans (hfr.2 b j hb)⟩
        exact t_iret hQ X hT (⟨rg_all _, hfr⟩) (Nat.le_of_ble_eq_true rfl) (Nat.le_of_ble_eq_true rfl) dX11_take_48
    · have w50768 := cv_eq (rfl : z50741.toInt = z50741.toInt) (by decide : (0 : Int32).toInt = 0) c50742
      refine lv_aload_n hx hb dX11_take_27 rfl (lv_at hl 1 rfl) ?_
      refine lv_bipush (v := 6) hx hb dX11_take_28 (by decide) ?_
      refine t_cVi (n := 1) (C := RX11) (T := TX11) (N := 16) (As := [.int 6]) (rest := []) X hT (kt63_X11_refuse l G tag L F hT.2.2.2 p0 6 m0 g0) m0 g0 rfl rfl qw_152 qw_153 qw_154 qw_2 qw_155 ⟨rfl, by decide +kernel, by decide +kernel, by decide +kernel⟩ ⟨Nat.le_of_ble_eq_true rfl, Nat.le_of_ble_eq_true rfl⟩ hl rfl rfl (Nat.le_of_ble_eq_true rfl) dX11_take_30 ⟨Nat.le_of_ble_eq_true rfl, Nat.le_of_ble_eq_true rfl⟩ (fun z50769 F H locs hT hz50769 => ?_)
      obtain ⟨hz50769, yz50769⟩ := hz50769
      have hv50739 := (yz50769.1 _ 5 (Or.inr (by decide))).trans hv50739
      have hfr : (∀ b j : Nat, (tag b ≠ 19 ∨ j ≠ 0) → (tag b ≠ 19 ∨ j ≠ 1) → (tag b ≠ 23 ∨ j ≠ 2) → (tag b ≠ 23 ∨ j ≠ 3) → (tag b ≠ 26 ∨ j ≠ 13) → fld F b j = fld Fo b j) ∧ EF tag F Fo := ⟨fun b j n19_0 n19_1 n23_2 n23_3 n26_13 => (yz50769.1 b j n26_13).trans (hfr.1 b j n19_0 n19_1 n23_2 n23_3 n26_13), fun b j hb => (yz50769.2 b j hb).trans (hfr.2 b j hb)⟩
      exact t_iret hQ X hT (⟨rg_all _, hfr⟩) (Nat.le_of_ble_eq_true rfl) (Nat.le_of_ble_eq_true rfl) dX11_take_33
  · have w50770 := cv_eq (rfl : z50735.toInt = z50735.toInt) (by decide : (0 : Int32).toInt = 0) c50736
    refine lv_aload_n hx hb dX11_take_8 rfl (lv_at hl 0 rfl) ?_
    refine lv_iconst (v := 1) hx hb dX11_take_9 (by decide) ?_
    refine t_cVi (n := 1) (C := RX11) (T := TX11) (N := 16) (As := [.int 1]) (rest := []) X hT (kt63_X11_refuse l G tag L F hT.2.2.2 p0 1 m0 g0) m0 g0 rfl rfl qw_152 qw_153 qw_154 qw_2 qw_155 ⟨rfl, by decide +kernel, by decide +kernel, by decide +kernel⟩ ⟨Nat.le_of_ble_eq_true rfl, Nat.le_of_ble_eq_true rfl⟩ hl rfl rfl (Nat.le_of_ble_eq_true rfl) dX11_take_10 ⟨Nat.le_of_ble_eq_true rfl, Nat.le_of_ble_eq_true rfl⟩ (fun z50771 F H locs hT hz50771 => ?_)
    obtain ⟨hz50771, yz50771⟩ := hz50771
    have hfr : (∀ b j : Nat, (tag b ≠ 19 ∨ j ≠ 0) → (tag b ≠ 19 ∨ j ≠ 1) → (tag b ≠ 23 ∨ j ≠ 2) → (tag b ≠ 23 ∨ j ≠ 3) → (tag b ≠ 26 ∨ j ≠ 13) → fld F b j = fld Fo b j) ∧ EF tag F Fo := ⟨fun b j n19_0 n19_1 n23_2 n23_3 n26_13 => (yz50771.1 b j n26_13).trans (hfr.1 b j n19_0 n19_1 n23_2 n23_3 n26_13), fun b j hb => (yz50771.2 b j hb).trans (hfr.2 b j hb)⟩
    exact t_iret hQ X hT (⟨rg_all _, hfr⟩) (Nat.le_of_ble_eq_true rfl) (Nat.le_of_ble_eq_true rfl) dX11_take_13
set_option maxHeartbeats 4000000 in
set_option maxRecDepth 100000 in
theorem kt132_X11_takes (l : Launch) (G : KG) (tag : Nat → Nat) (L : List Nat) (Fo : Nat → va_E) (ho : okT G ttC tag L Fo) (p0 : Nat) (p1 : Int32) (m0 : p0 ∈ L) (g0 : tag p0 = 26) : TMi l yX11_takes cX11_takes 3 (some .int) { frames := 3, cells := 0, slots := 0, locals := 68 } G ttC tag L Fo [.ref p0, .int p1] (fun r F1 => ((-2147483648) ≤ r.toInt ∧ r.toInt ≤ 2147483647) ∧ ((∀ b j : Nat, (tag b ≠ 26 ∨ j ≠ 13) → fld F1 b j = fld Fo b j) ∧ EF tag F1 Fo)) := by
  refine t_bodyi (y := yX11_takes) (cd := cX11_takes) (mL := 3) (rt := (some .int)) (rm := { frames := 3, cells := 0, slots := 0, locals := 68 }) (av := [.ref p0, .int p1]) (by decide) (Nat.le_of_ble_eq_true rfl) ho ?_
  intro p e s m args below meth c ls A Q hQ X hT hl
  have hx := X.1.1
  have hb := X.1.2.1
  have hl : lv_has ls 3 [(0, .ref p0), (1, .int p1)] := hl
  have rp1 := rg_all p1
  obtain ⟨F, hFo⟩ : ∃ F : Nat → va_E, F = Fo := ⟨_, rfl⟩
  rw [← hFo] at hT
  have hfr : (∀ b j : Nat, (tag b ≠ 26 ∨ j ≠ 13) → fld F b j = fld Fo b j) ∧ EF tag F Fo := by
    rw [hFo]
    exact ⟨by intros; rfl, fun _ _ _ => rfl⟩
  have K39 : ∀ (z50949 : Int32) (z50950 : Int32) (b50951 : Nat) (F : Nat → va_E) (H : Heap) (locs : List Loc) (ls : Array Slot), (0 ≤ z50949.toInt ∧ z50949.toInt ≤ 6) → (b50951 ∈ L) → (tag b50951 = 26) → (0 ≤ p1.toInt ∧ p1.toInt ≤ 3) → TH G ttC A s tag L F H locs → ((∀ b j : Nat, (tag b ≠ 26 ∨ j ≠ 13) → fld F b j = fld Fo b j) ∧ EF tag F Fo) → lv_has ls 3 [(0, .ref p0), (1, .int p1), (2, .int z50949)] → W p l e { frames := 3, cells := 0, slots := 0, locals := 68 } s m args below meth c H locs 0 0 Q (F0 m 39 ls [.int z50950, .ref b50951]) := by
    intro z50949 z50950 b50951 F H locs ls rz50949 mb50951 gb50951 r9s50948 hT hfr hl
    have rz50950 := rg_all z50950
    refine t_cVi (n := 1) (C := RX11) (T := TX11) (N := 16) (As := [.int z50950]) (rest := []) X hT (kt56_X11_answer l G tag L F hT.2.2.2 b50951 z50950 mb50951 gb50951) mb50951 gb50951 rfl rfl qw_463 qw_464 qw_465 qw_2 qw_466 ⟨rfl, by decide +kernel, by decide +kernel, by decide +kernel⟩ ⟨Nat.le_of_ble_eq_true rfl, Nat.le_of_ble_eq_true rfl⟩ hl rfl rfl (Nat.le_of_ble_eq_true rfl) dX11_takes_39 ⟨Nat.le_of_ble_eq_true rfl, Nat.le_of_ble_eq_true rfl⟩ (fun z50952 F H locs hT hz50952 => ?_)
    obtain ⟨hz50952, yz50952⟩ := hz50952
    have hfr : (∀ b j : Nat, (tag b ≠ 26 ∨ j ≠ 13) → fld F b j = fld Fo b j) ∧ EF tag F Fo := ⟨fun b j n26_13 => (yz50952.1 b j n26_13).trans (hfr.1 b j n26_13), fun b j hb => (yz50952.2 b j hb).trans (hfr.2 b j hb)⟩
    exact t_iret hQ X hT (⟨rg_all _, hfr⟩) (Nat.le_of_ble_eq_true rfl) (Nat.le_of_ble_eq_true rfl) dX11_takes_42
  refine lv_aload_n hx hb dX11_takes_0 rfl (lv_at hl 0 rfl) ?_
  refine lv_iload_n hx hb dX11_takes_1 rfl (lv_at hl 1 rfl) ?_
  refine t_cVi (n := 1) (C := RX11) (T := TX11) (N := 16) (As := [.int p1]) (rest := []) X hT (kt61_X11_isHouse l G tag L F hT.2.2.2 p0 p1 m0 g0) m0 g0 rfl rfl qw_770 qw_771 qw_772 qw_2 qw_773 ⟨rfl, by decide +kernel, by decide +kernel, by decide +kernel⟩ ⟨Nat.le_of_ble_eq_true rfl, Nat.le_of_ble_eq_true rfl⟩ hl rfl rfl (Nat.le_of_ble_eq_true rfl) dX11_takes_2 ⟨Nat.le_of_ble_eq_true rfl, Nat.le_of_ble_eq_true rfl⟩ (fun z50953 F9 H locs hT hz50953 => ?_)
  obtain ⟨fz50953, hz50953⟩ := hz50953
  rw [fz50953] at hT
  obtain ⟨hz50953, iz50953⟩ := hz50953
  refine lv_if_ne (tgt := 14) hx hb dX11_takes_5 (by decide) (fun c50954 => ?_) (fun c50954 => ?_)
  · have w50955 := cv_ne (rfl : z50953.toInt = z50953.toInt) (by decide : (0 : Int32).toInt = 0) c50954
    have w50956 := (fun h => (iz50953 h)) (by omega)
    refine lv_aload_n hx hb dX11_takes_14 rfl (lv_at hl 0 rfl) ?_
    refine t_get (C := RX11) (T := TX11) (N := 16) X hT m0 g0 rfl rfl 5 (by decide) qw_23 inlX11 rfl dX11_takes_15 (fun v50957 hv50957 ov50957 => ?_)
    obtain ⟨b50958, rfl, mb50958, gb50958⟩ := okV_r ov50957
    have gb50958 : tag b50958 = 19 := tg_of gb50958
    refine lv_iload_n hx hb dX11_takes_18 rfl (lv_at hl 1 rfl) ?_
    refine t_cVi (n := 1) (C := RX7) (T := TX7) (N := 7) (As := [.int p1]) (rest := []) X hT (kt21_X7_inmost l G tag L F hT.2.2.2 b50958 p1 mb50958 gb50958 (by omega)) mb50958 gb50958 rfl rfl qw_1292 qw_1293 qw_1294 qw_22 qw_1295 ⟨rfl, by decide +kernel, by decide +kernel, by decide +kernel⟩ ⟨Nat.le_of_ble_eq_true rfl, Nat.le_of_ble_eq_true rfl⟩ hl rfl rfl (Nat.le_of_ble_eq_true rfl) dX11_takes_19 ⟨Nat.le_of_ble_eq_true rfl, Nat.le_of_ble_eq_true rfl⟩ (fun z50959 F9 H locs hT hz50959 => ?_)
    obtain ⟨fz50959, hz50959⟩ := hz50959
    rw [fz50959] at hT
    refine lv_istore_n (lv' := [(2, .int z50959), (0, .ref p0), (1, .int p1)]) hx hb dX11_takes_22 rfl hl (by decide) rfl (fun ls hl => ?_)
    refine lv_aload_n hx hb dX11_takes_23 rfl (lv_at hl 1 rfl) ?_
    refine lv_iload_n hx hb dX11_takes_24 rfl (lv_at hl 0 rfl) ?_
    refine lv_if_ne (tgt := 33) hx hb dX11_takes_25 (by decide) (fun c50960 => ?_) (fun c50960 => ?_)
    · have w50961 := cv_ne (rfl : z50959.toInt = z50959.toInt) (by decide : (0 : Int32).toInt = 0) c50960
      refine lv_aload_n hx hb dX11_takes_33 rfl (lv_at hl 1 rfl) ?_
      refine lv_iload_n hx hb dX11_takes_34 rfl (lv_at hl 2 rfl) ?_
      refine lv_iload_n hx hb dX11_takes_35 rfl (lv_at hl 0 rfl) ?_
      refine t_cVi (n := 2) (C := RX11) (T := TX11) (N := 16) (As := [.int p1, .int z50959]) (rest := [.ref p0]) X hT (kt84_X11_goldIn l G tag L F hT.2.2.2 p0 p1 z50959 m0 g0) m0 g0 rfl rfl qw_1296 qw_1297 qw_1298 qw_2 qw_1299 ⟨rfl, by decide +kernel, by decide +kernel, by decide +kernel⟩ ⟨Nat.le_of_ble_eq_true rfl, Nat.le_of_ble_eq_true rfl⟩ hl rfl rfl (Nat.le_of_ble_eq_true rfl) dX11_takes_36 ⟨Nat.le_of_ble_eq_true rfl, Nat.le_of_ble_eq_true rfl⟩ (fun z50962 F9 H locs hT hz50962 => ?_)
      obtain ⟨fz50962, hz50962⟩ := hz50962
      rw [fz50962] at hT
      exact K39 z50959 z50962 p0 _ _ _ _ (by omega) m0 g0 (by omega) hT hfr  (lv_sub hl [1, 2, 0] rfl)
    · have w50963 := cv_eq (rfl : z50959.toInt = z50959.toInt) (by decide : (0 : Int32).toInt = 0) c50960
      refine lv_bipush (v := (-2)) hx hb dX11_takes_28 (by decide) ?_
      refine lv_goto (tgt := 39) hx hb dX11_takes_30 (by decide) ?_
      exact K39 z50959 (-2) p0 _ _ _ _ (by omega) m0 g0 (by omega) hT hfr  (lv_sub hl [1, 2, 0] rfl)
  · have w50964 := cv_eq (rfl : z50953.toInt = z50953.toInt) (by decide : (0 : Int32).toInt = 0) c50954
    refine lv_aload_n hx hb dX11_takes_8 rfl (lv_at hl 0 rfl) ?_
    refine lv_iconst (v := 1) hx hb dX11_takes_9 (by decide) ?_
    refine t_cVi (n := 1) (C := RX11) (T := TX11) (N := 16) (As := [.int 1]) (rest := []) X hT (kt63_X11_refuse l G tag L F hT.2.2.2 p0 1 m0 g0) m0 g0 rfl rfl qw_152 qw_153 qw_154 qw_2 qw_155 ⟨rfl, by decide +kernel, by decide +kernel, by decide +kernel⟩ ⟨Nat.le_of_ble_eq_true rfl, Nat.le_of_ble_eq_true rfl⟩ hl rfl rfl (Nat.le_of_ble_eq_true rfl) dX11_takes_10 ⟨Nat.le_of_ble_eq_true rfl, Nat.le_of_ble_eq_true rfl⟩ (fun z50965 F H locs hT hz50965 => ?_)
    obtain ⟨hz50965, yz50965⟩ := hz50965
    have hfr : (∀ b j : Nat, (tag b ≠ 26 ∨ j ≠ 13) → fld F b j = fld Fo b j) ∧ EF tag F Fo := ⟨fun b j n26_13 => (yz50965.1 b j n26_13).trans (hfr.1 b j n26_13), fun b j hb => (yz50965.2 b j hb).trans (hfr.2 b j hb)⟩
    exact t_iret hQ X hT (⟨rg_all _, hfr⟩) (Nat.le_of_ble_eq_true rfl) (Nat.le_of_ble_eq_true rfl) dX11_takes_13
