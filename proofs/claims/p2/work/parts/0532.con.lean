set_option maxHeartbeats 4000000 in
set_option maxRecDepth 100000 in
theorem kt179_X11_skinsIn (l : Launch) (G : KG) (tag : Nat → Nat) (L : List Nat) (Fo : Nat → va_E) (ho : okT G ttC tag L Fo) (p0 : Nat) (p1 : Int32) (m0 : p0 ∈ L) (g0 : tag p0 = 26) : TMi l yX11_skinsIn cX11_skinsIn 2 (some .int) { frames := 7, cells := 0, slots := 0, locals := 179 } G ttC tag L Fo [.ref p0, .int p1] (fun r F1 => ((-2147483648) ≤ r.toInt ∧ r.toInt ≤ 2147483647) ∧ ((∀ b j : Nat, (tag b ≠ 19 ∨ j ≠ 0) → (tag b ≠ 19 ∨ j ≠ 1) → (tag b ≠ 26 ∨ j ≠ 13) → fld F1 b j = fld Fo b j) ∧ EF tag F1 Fo)) := by
  refine t_bodyi (y := yX11_skinsIn) (cd := cX11_skinsIn) (mL := 2) (rt := (some .int)) (rm := { frames := 7, cells := 0, slots := 0, locals := 179 }) (av := [.ref p0, .int p1]) (by decide) (Nat.le_of_ble_eq_true rfl) ho ?_
  intro p e s m args below meth c ls A Q hQ X hT hl
  have hx := X.1.1
  have hb := X.1.2.1
  have hl : lv_has ls 2 [(0, .ref p0), (1, .int p1)] := hl
  have rp1 := rg_all p1
  obtain ⟨F, hFo⟩ : ∃ F : Nat → va_E, F = Fo := ⟨_, rfl⟩
  rw [← hFo] at hT
  have hfr : (∀ b j : Nat, (tag b ≠ 19 ∨ j ≠ 0) → (tag b ≠ 19 ∨ j ≠ 1) → (tag b ≠ 26 ∨ j ≠ 13) → fld F b j = fld Fo b j) ∧ EF tag F Fo := by
    rw [hFo]
    exact ⟨by intros; rfl, fun _ _ _ => rfl⟩
  have K23 : ∀ (z78249 : Int32) (F : Nat → va_E) (H : Heap) (locs : List Loc) (ls : Array Slot), (1 ≤ z78249.toInt ∧ z78249.toInt ≤ 1) → TH G ttC A s tag L F H locs → ((∀ b j : Nat, (tag b ≠ 19 ∨ j ≠ 0) → (tag b ≠ 19 ∨ j ≠ 1) → (tag b ≠ 26 ∨ j ≠ 13) → fld F b j = fld Fo b j) ∧ EF tag F Fo) → fld F p0 2 = .int z78249 → lv_has ls 2 [(0, .ref p0), (1, .int p1)] → W p l e { frames := 7, cells := 0, slots := 0, locals := 179 } s m args below meth c H locs 0 0 Q (F0 m 23 ls []) := by
    intro z78249 F H locs ls rz78249 hT hfr qz78249 hl
    refine lv_aload_n hx hb dX11_skinsIn_23 rfl (lv_at hl 0 rfl) ?_
    refine lv_iconst (v := 2) hx hb dX11_skinsIn_24 (by decide) ?_
    refine t_cVi (n := 1) (C := RX11) (T := TX11) (N := 16) (As := [.int 2]) (rest := []) X hT (kt63_X11_refuse l G tag L F hT.2.2.2 p0 2 m0 g0) m0 g0 rfl rfl qw_152 qw_153 qw_154 qw_2 qw_155 ⟨rfl, by decide +kernel, by decide +kernel, by decide +kernel⟩ ⟨Nat.le_of_ble_eq_true rfl, Nat.le_of_ble_eq_true rfl⟩ hl rfl rfl (Nat.le_of_ble_eq_true rfl) dX11_skinsIn_25 ⟨Nat.le_of_ble_eq_true rfl, Nat.le_of_ble_eq_true rfl⟩ (fun z78250 F H locs hT hz78250 => ?_)
    obtain ⟨hz78250, yz78250⟩ := hz78250
    have qz78249 := (yz78250.1 _ 2 (Or.inr (by decide))).trans qz78249
    have hfr : (∀ b j : Nat, (tag b ≠ 19 ∨ j ≠ 0) → (tag b ≠ 19 ∨ j ≠ 1) → (tag b ≠ 26 ∨ j ≠ 13) → fld F b j = fld Fo b j) ∧ EF tag F Fo := ⟨fun b j n19_0 n19_1 n26_13 => (yz78250.1 b j n26_13).trans (hfr.1 b j n19_0 n19_1 n26_13), fun b j hb => (yz78250.2 b j hb).trans (hfr.2 b j hb)⟩
    exact t_iret hQ X hT (⟨rg_all _, hfr⟩) (Nat.le_of_ble_eq_true rfl) (Nat.le_of_ble_eq_true rfl) dX11_skinsIn_28
  refine lv_aload_n hx hb dX11_skinsIn_0 rfl (lv_at hl 0 rfl) ?_
  refine t_get (C := RX11) (T := TX11) (N := 16) X hT m0 g0 rfl rfl 2 (by decide) qw_150 inlX11 rfl dX11_skinsIn_1 (fun v78251 hv78251 ov78251 => ?_)
  obtain ⟨z78252, rfl, rz78252⟩ := okV_i ov78251
  refine lv_if_ne (tgt := 13) hx hb dX11_skinsIn_4 (by decide) (fun c78253 => ?_) (fun c78253 => ?_)
  · have w78254 := cv_ne (rfl : z78252.toInt = z78252.toInt) (by decide : (0 : Int32).toInt = 0) c78253
    refine lv_iload_n hx hb dX11_skinsIn_13 rfl (lv_at hl 1 rfl) ?_
    refine lv_if_lt (tgt := 23) hx hb dX11_skinsIn_14 (by decide) (fun c78255 => ?_) (fun c78255 => ?_)
    · have w78256 := cv_lt (rfl : p1.toInt = p1.toInt) (by decide : (0 : Int32).toInt = 0) c78255
      exact K23 z78252 _ _ _ _ (by omega) hT hfr hv78251 (lv_sub hl [0, 1] rfl)
    · have w78257 := cv_nlt (rfl : p1.toInt = p1.toInt) (by decide : (0 : Int32).toInt = 0) c78255
      refine lv_iload_n hx hb dX11_skinsIn_17 rfl (lv_at hl 1 rfl) ?_
      refine lv_bipush (v := 60) hx hb dX11_skinsIn_18 (by decide) ?_
      refine lv_icmp_le (tgt := 29) hx hb dX11_skinsIn_20 (by decide) (fun c78258 => ?_) (fun c78258 => ?_)
      · have w78259 := cv_le (rfl : p1.toInt = p1.toInt) (by decide : (60 : Int32).toInt = 60) c78258
        refine lv_aload_n hx hb dX11_skinsIn_29 rfl (lv_at hl 0 rfl) ?_
        refine lv_iload_n hx hb dX11_skinsIn_30 rfl (lv_at hl 1 rfl) ?_
        refine t_cVv (n := 1) (C := RX11) (T := TX11) (N := 16) (As := [.int p1]) (rest := []) X hT (kt83_X11_goTo l G tag L F hT.2.2.2 p0 p1 m0 g0 (by omega)) m0 g0 rfl rfl qw_1092 qw_1093 qw_1094 qw_2 qw_1095 ⟨rfl, by decide +kernel, by decide +kernel, by decide +kernel⟩ ⟨Nat.le_of_ble_eq_true rfl, Nat.le_of_ble_eq_true rfl⟩ hl rfl rfl (Nat.le_of_ble_eq_true rfl) dX11_skinsIn_31 ⟨Nat.le_of_ble_eq_true rfl, Nat.le_of_ble_eq_true rfl⟩ (fun F H locs hT hz78260 => ?_)
        have yz78260 := hz78260
        have hv78251 := (yz78260.1 _ 2 (Or.inr (by decide)) (Or.inr (by decide))).trans hv78251
        have hfr : (∀ b j : Nat, (tag b ≠ 19 ∨ j ≠ 0) → (tag b ≠ 19 ∨ j ≠ 1) → (tag b ≠ 26 ∨ j ≠ 13) → fld F b j = fld Fo b j) ∧ EF tag F Fo := ⟨fun b j n19_0 n19_1 n26_13 => (yz78260.1 b j n19_0 n19_1).trans (hfr.1 b j n19_0 n19_1 n26_13), fun b j hb => (yz78260.2 b j hb).trans (hfr.2 b j hb)⟩
        refine lv_aload_n hx hb dX11_skinsIn_34 rfl (lv_at hl 0 rfl) ?_
        refine lv_aload_n hx hb dX11_skinsIn_35 rfl (lv_at hl 0 rfl) ?_
        refine t_get (C := RX11) (T := TX11) (N := 16) X hT m0 g0 rfl rfl 7 (by decide) qw_25 inlX11 rfl dX11_skinsIn_36 (fun v78261 hv78261 ov78261 => ?_)
        obtain ⟨b78262, rfl, mb78262, gb78262⟩ := okV_r ov78261
        have gb78262 : tag b78262 = 19 := tg_of gb78262
        refine t_cVi (n := 0) (C := RX7) (T := TX7) (N := 7) (As := []) (rest := [.ref p0]) X hT (kt23_X7_skinsOfAll l G tag L F hT.2.2.2 b78262 mb78262 gb78262) mb78262 gb78262 rfl rfl qw_1182 qw_1183 qw_1184 qw_22 qw_1185 ⟨rfl, by decide +kernel, by decide +kernel, by decide +kernel⟩ ⟨Nat.le_of_ble_eq_true rfl, Nat.le_of_ble_eq_true rfl⟩ hl rfl rfl (Nat.le_of_ble_eq_true rfl) dX11_skinsIn_39 ⟨Nat.le_of_ble_eq_true rfl, Nat.le_of_ble_eq_true rfl⟩ (fun z78263 F9 H locs hT hz78263 => ?_)
        obtain ⟨fz78263, hz78263⟩ := hz78263
        rw [fz78263] at hT
        refine t_cVi (n := 1) (C := RX11) (T := TX11) (N := 16) (As := [.int z78263]) (rest := []) X hT (kt56_X11_answer l G tag L F hT.2.2.2 p0 z78263 m0 g0) m0 g0 rfl rfl qw_463 qw_464 qw_465 qw_2 qw_466 ⟨rfl, by decide +kernel, by decide +kernel, by decide +kernel⟩ ⟨Nat.le_of_ble_eq_true rfl, Nat.le_of_ble_eq_true rfl⟩ hl rfl rfl (Nat.le_of_ble_eq_true rfl) dX11_skinsIn_42 ⟨Nat.le_of_ble_eq_true rfl, Nat.le_of_ble_eq_true rfl⟩ (fun z78264 F H locs hT hz78264 => ?_)
        obtain ⟨hz78264, yz78264⟩ := hz78264
        have hv78251 := (yz78264.1 _ 2 (Or.inr (by decide))).trans hv78251
        have hv78261 := (yz78264.1 _ 7 (Or.inr (by decide))).trans hv78261
        have hfr : (∀ b j : Nat, (tag b ≠ 19 ∨ j ≠ 0) → (tag b ≠ 19 ∨ j ≠ 1) → (tag b ≠ 26 ∨ j ≠ 13) → fld F b j = fld Fo b j) ∧ EF tag F Fo := ⟨fun b j n19_0 n19_1 n26_13 => (yz78264.1 b j n26_13).trans (hfr.1 b j n19_0 n19_1 n26_13), fun b j hb => (yz78264.2 b j hb).trans (hfr.2 b j hb)⟩
        exact t_iret hQ X hT (⟨rg_all _, hfr⟩) (Nat.le_of_ble_eq_true rfl) (Nat.le_of_ble_eq_true rfl) dX11_skinsIn_45
      · have w78265 := cv_nle (rfl : p1.toInt = p1.toInt) (by decide : (60 : Int32).toInt = 60) c78258
        exact K23 z78252 _ _ _ _ (by omega) hT hfr hv78251 (lv_sub hl [0, 1] rfl)
  · have w78266 := cv_eq (rfl : z78252.toInt = z78252.toInt) (by decide : (0 : Int32).toInt = 0) c78253
    refine lv_aload_n hx hb dX11_skinsIn_7 rfl (lv_at hl 0 rfl) ?_
    refine lv_iconst (v := 1) hx hb dX11_skinsIn_8 (by decide) ?_
    refine t_cVi (n := 1) (C := RX11) (T := TX11) (N := 16) (As := [.int 1]) (rest := []) X hT (kt63_X11_refuse l G tag L F hT.2.2.2 p0 1 m0 g0) m0 g0 rfl rfl qw_152 qw_153 qw_154 qw_2 qw_155 ⟨rfl, by decide +kernel, by decide +kernel, by decide +kernel⟩ ⟨Nat.le_of_ble_eq_true rfl, Nat.le_of_ble_eq_true rfl⟩ hl rfl rfl (Nat.le_of_ble_eq_true rfl) dX11_skinsIn_9 ⟨Nat.le_of_ble_eq_true rfl, Nat.le_of_ble_eq_true rfl⟩ (fun z78267 F H locs hT hz78267 => ?_)
    obtain ⟨hz78267, yz78267⟩ := hz78267
    have hv78251 := (yz78267.1 _ 2 (Or.inr (by decide))).trans hv78251
    have hfr : (∀ b j : Nat, (tag b ≠ 19 ∨ j ≠ 0) → (tag b ≠ 19 ∨ j ≠ 1) → (tag b ≠ 26 ∨ j ≠ 13) → fld F b j = fld Fo b j) ∧ EF tag F Fo := ⟨fun b j n19_0 n19_1 n26_13 => (yz78267.1 b j n26_13).trans (hfr.1 b j n19_0 n19_1 n26_13), fun b j hb => (yz78267.2 b j hb).trans (hfr.2 b j hb)⟩
    exact t_iret hQ X hT (⟨rg_all _, hfr⟩) (Nat.le_of_ble_eq_true rfl) (Nat.le_of_ble_eq_true rfl) dX11_skinsIn_12
set_option maxHeartbeats 4000000 in
set_option maxRecDepth 100000 in
theorem kt180_X11_soonest (l : Launch) (G : KG) (tag : Nat → Nat) (L : List Nat) (Fo : Nat → va_E) (ho : okT G ttC tag L Fo) (p0 : Nat) (p1 : Int32) (m0 : p0 ∈ L) (g0 : tag p0 = 26) : TMi l yX11_soonest cX11_soonest 2 (some .int) { frames := 4, cells := 0, slots := 0, locals := 86 } G ttC tag L Fo [.ref p0, .int p1] (fun r F1 => ((-2147483648) ≤ r.toInt ∧ r.toInt ≤ 2147483647) ∧ ((∀ b j : Nat, (tag b ≠ 22 ∨ j ≠ 2) → (tag b ≠ 26 ∨ j ≠ 13) → fld F1 b j = fld Fo b j) ∧ EF tag F1 Fo)) := by
  refine t_bodyi (y := yX11_soonest) (cd := cX11_soonest) (mL := 2) (rt := (some .int)) (rm := { frames := 4, cells := 0, slots := 0, locals := 86 }) (av := [.ref p0, .int p1]) (by decide) (Nat.le_of_ble_eq_true rfl) ho ?_
  intro p e s m args below meth c ls A Q hQ X hT hl
  have hx := X.1.1
  have hb := X.1.2.1
  have hl : lv_has ls 2 [(0, .ref p0), (1, .int p1)] := hl
  have rp1 := rg_all p1
  obtain ⟨F, hFo⟩ : ∃ F : Nat → va_E, F = Fo := ⟨_, rfl⟩
  rw [← hFo] at hT
  have hfr : (∀ b j : Nat, (tag b ≠ 22 ∨ j ≠ 2) → (tag b ≠ 26 ∨ j ≠ 13) → fld F b j = fld Fo b j) ∧ EF tag F Fo := by
    rw [hFo]
    exact ⟨by intros; rfl, fun _ _ _ => rfl⟩
  have K57 : ∀ (z78577 : Int32) (b78578 : Nat) (F : Nat → va_E) (H : Heap) (locs : List Loc) (ls : Array Slot), (b78578 ∈ L) → (tag b78578 = 26) → (0 ≤ p1.toInt ∧ p1.toInt ≤ 5) → TH G ttC A s tag L F H locs → ((∀ b j : Nat, (tag b ≠ 22 ∨ j ≠ 2) → (tag b ≠ 26 ∨ j ≠ 13) → fld F b j = fld Fo b j) ∧ EF tag F Fo) → lv_has ls 2 [(0, .ref p0), (1, .int p1)] → W p l e { frames := 4, cells := 0, slots := 0, locals := 86 } s m args below meth c H locs 0 0 Q (F0 m 57 ls [.int z78577, .ref b78578]) := by
    intro z78577 b78578 F H locs ls mb78578 gb78578 r9s78576 hT hfr hl
    have rz78577 := rg_all z78577
    refine t_cVi (n := 1) (C := RX11) (T := TX11) (N := 16) (As := [.int z78577]) (rest := []) X hT (kt56_X11_answer l G tag L F hT.2.2.2 b78578 z78577 mb78578 gb78578) mb78578 gb78578 rfl rfl qw_463 qw_464 qw_465 qw_2 qw_466 ⟨rfl, by decide +kernel, by decide +kernel, by decide +kernel⟩ ⟨Nat.le_of_ble_eq_true rfl, Nat.le_of_ble_eq_true rfl⟩ hl rfl rfl (Nat.le_of_ble_eq_true rfl) dX11_soonest_57 ⟨Nat.le_of_ble_eq_true rfl, Nat.le_of_ble_eq_true rfl⟩ (fun z78579 F H locs hT hz78579 => ?_)
    obtain ⟨hz78579, yz78579⟩ := hz78579
    have hfr : (∀ b j : Nat, (tag b ≠ 22 ∨ j ≠ 2) → (tag b ≠ 26 ∨ j ≠ 13) → fld F b j = fld Fo b j) ∧ EF tag F Fo := ⟨fun b j n22_2 n26_13 => (yz78579.1 b j n26_13).trans (hfr.1 b j n22_2 n26_13), fun b j hb => (yz78579.2 b j hb).trans (hfr.2 b j hb)⟩
    exact t_iret hQ X hT (⟨rg_all _, hfr⟩) (Nat.le_of_ble_eq_true rfl) (Nat.le_of_ble_eq_true rfl) dX11_soonest_60
  refine lv_aload_n hx hb dX11_soonest_0 rfl (lv_at hl 0 rfl) ?_
  refine lv_iload_n hx hb dX11_soonest_1 rfl (lv_at hl 1 rfl) ?_
  refine t_cVi (n := 1) (C := RX11) (T := TX11) (N := 16) (As := [.int p1]) (rest := []) X hT (kt92_X11_isWall l G tag L F hT.2.2.2 p0 p1 m0 g0) m0 g0 rfl rfl qw_1379 qw_1380 qw_1381 qw_2 qw_1382 ⟨rfl, by decide +kernel, by decide +kernel, by decide +kernel⟩ ⟨Nat.le_of_ble_eq_true rfl, Nat.le_of_ble_eq_true rfl⟩ hl rfl rfl (Nat.le_of_ble_eq_true rfl) dX11_soonest_2 ⟨Nat.le_of_ble_eq_true rfl, Nat.le_of_ble_eq_true rfl⟩ (fun z78580 F9 H locs hT hz78580 => ?_)
  obtain ⟨fz78580, hz78580⟩ := hz78580
  rw [fz78580] at hT
  obtain ⟨hz78580, iz78580⟩ := hz78580
  refine lv_if_ne (tgt := 14) hx hb dX11_soonest_5 (by decide) (fun c78581 => ?_) (fun c78581 => ?_)
  · have w78582 := cv_ne (rfl : z78580.toInt = z78580.toInt) (by decide : (0 : Int32).toInt = 0) c78581
    have w78583 := (fun h => (iz78580 h)) (by omega)
    refine lv_aload_n hx hb dX11_soonest_14 rfl (lv_at hl 0 rfl) ?_
    refine t_get (C := RX11) (T := TX11) (N := 16) X hT m0 g0 rfl rfl 11 (by decide) qw_41 inlX11 rfl dX11_soonest_15 (fun v78584 hv78584 ov78584 => ?_)
    obtain ⟨b78585, rfl, mb78585, gb78585⟩ := okV_r ov78584
    have gb78585 : tag b78585 = 22 := tg_of gb78585
    refine lv_aload_n hx hb dX11_soonest_18 rfl (lv_at hl 0 rfl) ?_
    refine t_get (C := RX11) (T := TX11) (N := 16) X hT m0 g0 rfl rfl 3 (by decide) qw_18 inlX11 rfl dX11_soonest_19 (fun v78586 hv78586 ov78586 => ?_)
    obtain ⟨b78587, rfl, mb78587, gb78587⟩ := okV_r ov78586
    have gb78587 : tag b78587 = 18 := tg_of gb78587
    refine lv_aload_n hx hb dX11_soonest_22 rfl (lv_at hl 0 rfl) ?_
    refine t_get (C := RX11) (T := TX11) (N := 16) X hT m0 g0 rfl rfl 5 (by decide) qw_23 inlX11 rfl dX11_soonest_23 (fun v78588 hv78588 ov78588 => ?_)
    obtain ⟨b78589, rfl, mb78589, gb78589⟩ := okV_r ov78588
    have gb78589 : tag b78589 = 19 := tg_of gb78589
    refine t_get (C := RX7) (T := TX7) (N := 7) X hT mb78589 gb78589 rfl rfl 0 (by decide) qw_1225 inlX7 rfl dX11_soonest_26 (fun v78590 hv78590 ov78590 => ?_)
    obtain ⟨z78591, rfl, rz78591⟩ := okV_i ov78590
    refine t_cVv (n := 2) (C := RX9) (T := TX9) (N := 6) (As := [.ref b78587, .int z78591]) (rest := []) X hT (kt159_X9_lookAtAll l G tag L F hT.2.2.2 b78585 b78587 z78591 mb78585 gb78585 mb78587 gb78587) mb78585 gb78585 rfl rfl qw_1333 qw_1334 qw_1335 qw_40 qw_1336 ⟨rfl, by decide +kernel, by decide +kernel, by decide +kernel⟩ ⟨Nat.le_of_ble_eq_true rfl, Nat.le_of_ble_eq_true rfl⟩ hl rfl rfl (Nat.le_of_ble_eq_true rfl) dX11_soonest_29 ⟨Nat.le_of_ble_eq_true rfl, Nat.le_of_ble_eq_true rfl⟩ (fun F H locs hT hz78592 => ?_)
    have yz78592 := hz78592
    have hv78584 := (yz78592.1 _ 11 (Or.inr (by decide))).trans hv78584
    have hv78586 := (yz78592.1 _ 3 (Or.inr (by decide))).trans hv78586
    have hv78588 := (yz78592.1 _ 5 (Or.inr (by decide))).trans hv78588
    have hv78590 := (yz78592.1 _ 0 (Or.inr (by decide))).trans hv78590
    have hfr : (∀ b j : Nat, (tag b ≠ 22 ∨ j ≠ 2) → (tag b ≠ 26 ∨ j ≠ 13) → fld F b j = fld Fo b j) ∧ EF tag F Fo := ⟨fun b j n22_2 n26_13 => (yz78592.1 b j n22_2).trans (hfr.1 b j n22_2 n26_13), fun b j hb => (yz78592.2 b j hb).trans (hfr.2 b j hb)⟩
    refine lv_aload_n hx hb dX11_soonest_32 rfl (lv_at hl 0 rfl) ?_
    refine lv_aload_n hx hb dX11_soonest_33 rfl (lv_at hl 0 rfl) ?_
    refine t_get (C := RX11) (T := TX11) (N := 16) X hT m0 g0 rfl rfl 11 (by decide) qw_41 inlX11 rfl dX11_soonest_34 (fun v78593 hv78593 ov78593 => ?_)
    obtain rfl : v78593 = .ref b78585 := hv78593.symm.trans hv78584
    refine t_get (C := RX9) (T := TX9) (N := 6) X hT mb78585 gb78585 rfl rfl 2 (by decide) qw_1332 inlX9 rfl dX11_soonest_37 (fun v78594 hv78594 ov78594 => ?_)
    obtain ⟨z78595, rfl, rz78595⟩ := okV_i ov78594
    refine lv_if_ne (tgt := 48) hx hb dX11_soonest_40 (by decide) (fun c78596 => ?_) (fun c78596 => ?_)
    · have w78597 := cv_ne (rfl : z78595.toInt = z78595.toInt) (by decide : (0 : Int32).toInt = 0) c78596
      refine lv_aload_n hx hb dX11_soonest_48 rfl (lv_at hl 0 rfl) ?_
      refine t_get (C := RX11) (T := TX11) (N := 16) X hT m0 g0 rfl rfl 11 (by decide) qw_41 inlX11 rfl dX11_soonest_49 (fun v78598 hv78598 ov78598 => ?_)
      obtain rfl : v78598 = .ref b78585 := hv78598.symm.trans hv78584
      refine t_get (C := RX9) (T := TX9) (N := 6) X hT mb78585 gb78585 rfl rfl 3 (by decide) qw_1400 inlX9 rfl dX11_soonest_52 (fun v78599 hv78599 ov78599 => ?_)
      obtain ⟨b78600, rfl, mb78600, gb78600⟩ := okV_r ov78599
      have gb78600 : tag b78600 = 7 := tg_of gb78600
      refine lv_iload_n hx hb dX11_soonest_55 rfl (lv_at hl 1 rfl) ?_
      refine t_ild X hT mb78600 gb78600 rfl (by omega) dX11_soonest_56 (fun z78601 vz78601 rz78601 => ?_)
      have rz78601 : (-2147483648) ≤ z78601.toInt ∧ z78601.toInt ≤ 2147483647 := rz78601
      exact K57 z78601 p0 _ _ _ _ m0 g0 (by omega) hT hfr  (lv_sub hl [0, 1] rfl)
    · have w78602 := cv_eq (rfl : z78595.toInt = z78595.toInt) (by decide : (0 : Int32).toInt = 0) c78596
      refine lv_bipush (v := (-2)) hx hb dX11_soonest_43 (by decide) ?_
      refine lv_goto (tgt := 57) hx hb dX11_soonest_45 (by decide) ?_
      exact K57 (-2) p0 _ _ _ _ m0 g0 (by omega) hT hfr  (lv_sub hl [0, 1] rfl)
  · have w78603 := cv_eq (rfl : z78580.toInt = z78580.toInt) (by decide : (0 : Int32).toInt = 0) c78581
    refine lv_aload_n hx hb dX11_soonest_8 rfl (lv_at hl 0 rfl) ?_
    refine lv_iconst (v := 1) hx hb dX11_soonest_9 (by decide) ?_
    refine t_cVi (n := 1) (C := RX11) (T := TX11) (N := 16) (As := [.int 1]) (rest := []) X hT (kt63_X11_refuse l G tag L F hT.2.2.2 p0 1 m0 g0) m0 g0 rfl rfl qw_152 qw_153 qw_154 qw_2 qw_155 ⟨rfl, by decide +kernel, by decide +kernel, by decide +kernel⟩ ⟨Nat.le_of_ble_eq_true rfl, Nat.le_of_ble_eq_true rfl⟩ hl rfl rfl (Nat.le_of_ble_eq_true rfl) dX11_soonest_10 ⟨Nat.le_of_ble_eq_true rfl, Nat.le_of_ble_eq_true rfl⟩ (fun z78604 F H locs hT hz78604 => ?_)
    obtain ⟨hz78604, yz78604⟩ := hz78604
    have hfr : (∀ b j : Nat, (tag b ≠ 22 ∨ j ≠ 2) → (tag b ≠ 26 ∨ j ≠ 13) → fld F b j = fld Fo b j) ∧ EF tag F Fo := ⟨fun b j n22_2 n26_13 => (yz78604.1 b j n26_13).trans (hfr.1 b j n22_2 n26_13), fun b j hb => (yz78604.2 b j hb).trans (hfr.2 b j hb)⟩
    exact t_iret hQ X hT (⟨rg_all _, hfr⟩) (Nat.le_of_ble_eq_true rfl) (Nat.le_of_ble_eq_true rfl) dX11_soonest_13
set_option maxHeartbeats 4000000 in
set_option maxRecDepth 100000 in
theorem kt181_X11_stone (l : Launch) (G : KG) (tag : Nat → Nat) (L : List Nat) (Fo : Nat → va_E) (ho : okT G ttC tag L Fo) (p0 : Nat) (p1 : Int32) (p2 : Int32) (m0 : p0 ∈ L) (g0 : tag p0 = 26) : TMi l yX11_stone cX11_stone 3 (some .int) { frames := 1, cells := 0, slots := 0, locals := 23 } G ttC tag L Fo [.ref p0, .int p1, .int p2] (fun r F1 => ((-2147483648) ≤ r.toInt ∧ r.toInt ≤ 2147483647) ∧ ((∀ b j : Nat, (tag b ≠ 26 ∨ j ≠ 13) → fld F1 b j = fld Fo b j) ∧ EF tag F1 Fo)) := by
  refine t_bodyi (y := yX11_stone) (cd := cX11_stone) (mL := 3) (rt := (some .int)) (rm := { frames := 1, cells := 0, slots := 0, locals := 23 }) (av := [.ref p0, .int p1, .int p2]) (by decide) (Nat.le_of_ble_eq_true rfl) ho ?_
  intro p e s m args below meth c ls A Q hQ X hT hl
  have hx := X.1.1
  have hb := X.1.2.1
  have hl : lv_has ls 3 [(0, .ref p0), (1, .int p1), (2, .int p2)] := hl
  have rp1 := rg_all p1
  have rp2 := rg_all p2
  obtain ⟨F, hFo⟩ : ∃ F : Nat → va_E, F = Fo := ⟨_, rfl⟩
  rw [← hFo] at hT
  have hfr : (∀ b j : Nat, (tag b ≠ 26 ∨ j ≠ 13) → fld F b j = fld Fo b j) ∧ EF tag F Fo := by
    rw [hFo]
    exact ⟨by intros; rfl, fun _ _ _ => rfl⟩
  have K17 : ∀  (F : Nat → va_E) (H : Heap) (locs : List Loc) (ls : Array Slot), TH G ttC A s tag L F H locs → ((∀ b j : Nat, (tag b ≠ 26 ∨ j ≠ 13) → fld F b j = fld Fo b j) ∧ EF tag F Fo) → lv_has ls 3 [(0, .ref p0), (1, .int p1), (2, .int p2)] → W p l e { frames := 1, cells := 0, slots := 0, locals := 23 } s m args below meth c H locs 0 0 Q (F0 m 17 ls []) := by
    intro F H locs ls hT hfr hl
    refine lv_aload_n hx hb dX11_stone_17 rfl (lv_at hl 0 rfl) ?_
    refine lv_iconst (v := 1) hx hb dX11_stone_18 (by decide) ?_
    refine t_cVi (n := 1) (C := RX11) (T := TX11) (N := 16) (As := [.int 1]) (rest := []) X hT (kt63_X11_refuse l G tag L F hT.2.2.2 p0 1 m0 g0) m0 g0 rfl rfl qw_152 qw_153 qw_154 qw_2 qw_155 ⟨rfl, by decide +kernel, by decide +kernel, by decide +kernel⟩ ⟨Nat.le_of_ble_eq_true rfl, Nat.le_of_ble_eq_true rfl⟩ hl rfl rfl (Nat.le_of_ble_eq_true rfl) dX11_stone_19 ⟨Nat.le_of_ble_eq_true rfl, Nat.le_of_ble_eq_true rfl⟩ (fun z78781 F H locs hT hz78781 => ?_)
    obtain ⟨hz78781, yz78781⟩ := hz78781
    have hfr : (∀ b j : Nat, (tag b ≠ 26 ∨ j ≠ 13) → fld F b j = fld Fo b j) ∧ EF tag F Fo := ⟨fun b j n26_13 => (yz78781.1 b j n26_13).trans (hfr.1 b j n26_13), fun b j hb => (yz78781.2 b j hb).trans (hfr.2 b j hb)⟩
    exact t_iret hQ X hT (⟨rg_all _, hfr⟩) (Nat.le_of_ble_eq_true rfl) (Nat.le_of_ble_eq_true rfl) dX11_stone_22
  refine lv_aload_n hx hb dX11_stone_0 rfl (lv_at hl 0 rfl) ?_
  refine lv_iload_n hx hb dX11_stone_1 rfl (lv_at hl 1 rfl) ?_
  refine t_cVi (n := 1) (C := RX11) (T := TX11) (N := 16) (As := [.int p1]) (rest := []) X hT (kt65_X11_isStone l G tag L F hT.2.2.2 p0 p1 m0 g0) m0 g0 rfl rfl qw_954 qw_955 qw_956 qw_2 qw_957 ⟨rfl, by decide +kernel, by decide +kernel, by decide +kernel⟩ ⟨Nat.le_of_ble_eq_true rfl, Nat.le_of_ble_eq_true rfl⟩ hl rfl rfl (Nat.le_of_ble_eq_true rfl) dX11_stone_2 ⟨Nat.le_of_ble_eq_true rfl, Nat.le_of_ble_eq_true rfl⟩ (fun z78782 F9 H locs hT hz78782 => ?_)
  obtain ⟨fz78782, hz78782⟩ := hz78782
  rw [fz78782] at hT
  refine lv_if_eq (tgt := 17) hx hb dX11_stone_5 (by decide) (fun c78783 => ?_) (fun c78783 => ?_)
  · have w78784 := cv_eq (rfl : z78782.toInt = z78782.toInt) (by decide : (0 : Int32).toInt = 0) c78783
    exact K17  _ _ _ _  hT hfr  (lv_sub hl [0, 1, 2] rfl)
  · have w78785 := cv_ne (rfl : z78782.toInt = z78782.toInt) (by decide : (0 : Int32).toInt = 0) c78783
    refine lv_iload_n hx hb dX11_stone_8 rfl (lv_at hl 2 rfl) ?_
    refine lv_if_lt (tgt := 17) hx hb dX11_stone_9 (by decide) (fun c78786 => ?_) (fun c78786 => ?_)
    · have w78787 := cv_lt (rfl : p2.toInt = p2.toInt) (by decide : (0 : Int32).toInt = 0) c78786
      exact K17  _ _ _ _  hT hfr  (lv_sub hl [0, 1, 2] rfl)
    · have w78788 := cv_nlt (rfl : p2.toInt = p2.toInt) (by decide : (0 : Int32).toInt = 0) c78786
      refine lv_iload_n hx hb dX11_stone_12 rfl (lv_at hl 2 rfl) ?_
      refine lv_iconst (v := 5) hx hb dX11_stone_13 (by decide) ?_
      refine lv_icmp_lt (tgt := 23) hx hb dX11_stone_14 (by decide) (fun c78789 => ?_) (fun c78789 => ?_)
      · have w78790 := cv_lt (rfl : p2.toInt = p2.toInt) (by decide : (5 : Int32).toInt = 5) c78789
        refine lv_aload_n hx hb dX11_stone_23 rfl (lv_at hl 0 rfl) ?_
        refine lv_aload_n hx hb dX11_stone_24 rfl (lv_at hl 0 rfl) ?_
        refine t_get (C := RX11) (T := TX11) (N := 16) X hT m0 g0 rfl rfl 3 (by decide) qw_18 inlX11 rfl dX11_stone_25 (fun v78791 hv78791 ov78791 => ?_)
        obtain ⟨b78792, rfl, mb78792, gb78792⟩ := okV_r ov78791
        have gb78792 : tag b78792 = 18 := tg_of gb78792
        refine lv_iload_n hx hb dX11_stone_28 rfl (lv_at hl 1 rfl) ?_
        refine lv_iload_n hx hb dX11_stone_29 rfl (lv_at hl 2 rfl) ?_
        refine t_cVi (n := 2) (C := RX1) (T := TX1) (N := 20) (As := [.int p1, .int p2]) (rest := [.ref p0]) X hT (kt9_X1_stonePart l G tag L F hT.2.2.2 b78792 p1 p2 mb78792 gb78792) mb78792 gb78792 rfl rfl qw_857 qw_858 qw_859 qw_17 qw_860 ⟨rfl, by decide +kernel, by decide +kernel, by decide +kernel⟩ ⟨Nat.le_of_ble_eq_true rfl, Nat.le_of_ble_eq_true rfl⟩ hl rfl rfl (Nat.le_of_ble_eq_true rfl) dX11_stone_30 ⟨Nat.le_of_ble_eq_true rfl, Nat.le_of_ble_eq_true rfl⟩ (fun z78793 F9 H locs hT hz78793 => ?_)
        obtain ⟨fz78793, hz78793⟩ := hz78793
        rw [fz78793] at hT
        refine t_cVi (n := 1) (C := RX11) (T := TX11) (N := 16) (As := [.int z78793]) (rest := []) X hT (kt56_X11_answer l G tag L F hT.2.2.2 p0 z78793 m0 g0) m0 g0 rfl rfl qw_463 qw_464 qw_465 qw_2 qw_466 ⟨rfl, by decide +kernel, by decide +kernel, by decide +kernel⟩ ⟨Nat.le_of_ble_eq_true rfl, Nat.le_of_ble_eq_true rfl⟩ hl rfl rfl (Nat.le_of_ble_eq_true rfl) dX11_stone_33 ⟨Nat.le_of_ble_eq_true rfl, Nat.le_of_ble_eq_true rfl⟩ (fun z78794 F H locs hT hz78794 => ?_)
        obtain ⟨hz78794, yz78794⟩ := hz78794
        have hv78791 := (yz78794.1 _ 3 (Or.inr (by decide))).trans hv78791
        have hfr : (∀ b j : Nat, (tag b ≠ 26 ∨ j ≠ 13) → fld F b j = fld Fo b j) ∧ EF tag F Fo := ⟨fun b j n26_13 => (yz78794.1 b j n26_13).trans (hfr.1 b j n26_13), fun b j hb => (yz78794.2 b j hb).trans (hfr.2 b j hb)⟩
        exact t_iret hQ X hT (⟨rg_all _, hfr⟩) (Nat.le_of_ble_eq_true rfl) (Nat.le_of_ble_eq_true rfl) dX11_stone_36
      · have w78795 := cv_nlt (rfl : p2.toInt = p2.toInt) (by decide : (5 : Int32).toInt = 5) c78789
        exact K17  _ _ _ _  hT hfr  (lv_sub hl [0, 1, 2] rfl)
set_option maxHeartbeats 4000000 in
set_option maxRecDepth 100000 in
theorem kt182_X11_surely (l : Launch) (G : KG) (tag : Nat → Nat) (L : List Nat) (Fo : Nat → va_E) (ho : okT G ttC tag L Fo) (p0 : Nat) (p1 : Int32) (p2 : Int32) (m0 : p0 ∈ L) (g0 : tag p0 = 26) : TMi l yX11_surely cX11_surely 4 (some .int) { frames := 4, cells := 0, slots := 0, locals := 86 } G ttC tag L Fo [.ref p0, .int p1, .int p2] (fun r F1 => ((-2147483648) ≤ r.toInt ∧ r.toInt ≤ 2147483647) ∧ ((∀ b j : Nat, (tag b ≠ 22 ∨ j ≠ 2) → (tag b ≠ 26 ∨ j ≠ 13) → fld F1 b j = fld Fo b j) ∧ EF tag F1 Fo)) := by
  refine t_bodyi (y := yX11_surely) (cd := cX11_surely) (mL := 4) (rt := (some .int)) (rm := { frames := 4, cells := 0, slots := 0, locals := 86 }) (av := [.ref p0, .int p1, .int p2]) (by decide) (Nat.le_of_ble_eq_true rfl) ho ?_
  intro p e s m args below meth c ls A Q hQ X hT hl
  have hx := X.1.1
  have hb := X.1.2.1
  have hl : lv_has ls 4 [(0, .ref p0), (1, .int p1), (2, .int p2)] := hl
  have rp1 := rg_all p1
  have rp2 := rg_all p2
  obtain ⟨F, hFo⟩ : ∃ F : Nat → va_E, F = Fo := ⟨_, rfl⟩
  rw [← hFo] at hT
  have hfr : (∀ b j : Nat, (tag b ≠ 22 ∨ j ≠ 2) → (tag b ≠ 26 ∨ j ≠ 13) → fld F b j = fld Fo b j) ∧ EF tag F Fo := by
    rw [hFo]
    exact ⟨by intros; rfl, fun _ _ _ => rfl⟩
  have K21 : ∀  (F : Nat → va_E) (H : Heap) (locs : List Loc) (ls : Array Slot), TH G ttC A s tag L F H locs → ((∀ b j : Nat, (tag b ≠ 22 ∨ j ≠ 2) → (tag b ≠ 26 ∨ j ≠ 13) → fld F b j = fld Fo b j) ∧ EF tag F Fo) → lv_has ls 4 [(0, .ref p0), (1, .int p1), (2, .int p2)] → W p l e { frames := 4, cells := 0, slots := 0, locals := 86 } s m args below meth c H locs 0 0 Q (F0 m 21 ls []) := by
    intro F H locs ls hT hfr hl
    refine lv_aload_n hx hb dX11_surely_21 rfl (lv_at hl 0 rfl) ?_
    refine lv_iconst (v := 1) hx hb dX11_surely_22 (by decide) ?_
    refine t_cVi (n := 1) (C := RX11) (T := TX11) (N := 16) (As := [.int 1]) (rest := []) X hT (kt63_X11_refuse l G tag L F hT.2.2.2 p0 1 m0 g0) m0 g0 rfl rfl qw_152 qw_153 qw_154 qw_2 qw_155 ⟨rfl, by decide +kernel, by decide +kernel, by decide +kernel⟩ ⟨Nat.le_of_ble_eq_true rfl, Nat.le_of_ble_eq_true rfl⟩ hl rfl rfl (Nat.le_of_ble_eq_true rfl) dX11_surely_23 ⟨Nat.le_of_ble_eq_true rfl, Nat.le_of_ble_eq_true rfl⟩ (fun z79366 F H locs hT hz79366 => ?_)
    obtain ⟨hz79366, yz79366⟩ := hz79366
    have hfr : (∀ b j : Nat, (tag b ≠ 22 ∨ j ≠ 2) → (tag b ≠ 26 ∨ j ≠ 13) → fld F b j = fld Fo b j) ∧ EF tag F Fo := ⟨fun b j n22_2 n26_13 => (yz79366.1 b j n26_13).trans (hfr.1 b j n22_2 n26_13), fun b j hb => (yz79366.2 b j hb).trans (hfr.2 b j hb)⟩
    exact t_iret hQ X hT (⟨rg_all _, hfr⟩) (Nat.le_of_ble_eq_true rfl) (Nat.le_of_ble_eq_true rfl) dX11_surely_26
  have K88 : ∀ (z79369 : Int32) (z79370 : Int32) (b79371 : Nat) (F : Nat → va_E) (H : Heap) (locs : List Loc) (ls : Array Slot), (0 ≤ z79369.toInt ∧ z79369.toInt ≤ 1) → (0 ≤ z79370.toInt ∧ z79370.toInt ≤ 1) → (b79371 ∈ L) → (tag b79371 = 26) → (0 ≤ p1.toInt ∧ p1.toInt ≤ 5) → (0 ≤ p2.toInt ∧ p2.toInt ≤ 5) → TH G ttC A s tag L F H locs → ((∀ b j : Nat, (tag b ≠ 22 ∨ j ≠ 2) → (tag b ≠ 26 ∨ j ≠ 13) → fld F b j = fld Fo b j) ∧ EF tag F Fo) → lv_has ls 4 [(0, .ref p0), (1, .int p1), (2, .int p2), (3, .int z79369)] → W p l e { frames := 4, cells := 0, slots := 0, locals := 86 } s m args below meth c H locs 0 0 Q (F0 m 88 ls [.int z79370, .ref b79371]) := by
    intro z79369 z79370 b79371 F H locs ls rz79369 rz79370 mb79371 gb79371 r9s79367 r9s79368 hT hfr hl
    refine t_cVi (n := 1) (C := RX11) (T := TX11) (N := 16) (As := [.int z79370]) (rest := []) X hT (kt56_X11_answer l G tag L F hT.2.2.2 b79371 z79370 mb79371 gb79371) mb79371 gb79371 rfl rfl qw_463 qw_464 qw_465 qw_2 qw_466 ⟨rfl, by decide +kernel, by decide +kernel, by decide +kernel⟩ ⟨Nat.le_of_ble_eq_true rfl, Nat.le_of_ble_eq_true rfl⟩ hl rfl rfl (Nat.le_of_ble_eq_true rfl) dX11_surely_88 ⟨Nat.le_of_ble_eq_true rfl, Nat.le_of_ble_eq_true rfl⟩ (fun z79372 F H locs hT hz79372 => ?_)
    obtain ⟨hz79372, yz79372⟩ := hz79372
    have hfr : (∀ b j : Nat, (tag b ≠ 22 ∨ j ≠ 2) → (tag b ≠ 26 ∨ j ≠ 13) → fld F b j = fld Fo b j) ∧ EF tag F Fo := ⟨fun b j n22_2 n26_13 => (yz79372.1 b j n26_13).trans (hfr.1 b j n22_2 n26_13), fun b j hb => (yz79372.2 b j hb).trans (hfr.2 b j hb)⟩
    exact t_iret hQ X hT (⟨rg_all _, hfr⟩) (Nat.le_of_ble_eq_true rfl) (Nat.le_of_ble_eq_true rfl) dX11_surely_91
  have K87 : ∀ (z79375 : Int32) (b79376 : Nat) (F : Nat → va_E) (H : Heap) (locs : List Loc) (ls : Array Slot), (0 ≤ z79375.toInt ∧ z79375.toInt ≤ 1) → (b79376 ∈ L) → (tag b79376 = 26) → (0 ≤ p1.toInt ∧ p1.toInt ≤ 5) → (0 ≤ p2.toInt ∧ p2.toInt ≤ 5) → TH G ttC A s tag L F H locs → ((∀ b j : Nat, (tag b ≠ 22 ∨ j ≠ 2) → (tag b ≠ 26 ∨ j ≠ 13) → fld F b j = fld Fo b j) ∧ EF tag F Fo) → lv_has ls 4 [(0, .ref p0), (1, .int p1), (2, .int p2), (3, .int z79375)] → W p l e { frames := 4, cells := 0, slots := 0, locals := 86 } s m args below meth c H locs 0 0 Q (F0 m 87 ls [.ref b79376]) := by
    intro z79375 b79376 F H locs ls rz79375 mb79376 gb79376 r9s79373 r9s79374 hT hfr hl
    refine lv_iconst (v := 0) hx hb dX11_surely_87 (by decide) ?_
    exact K88 z79375 0 b79376 _ _ _ _ (by omega) (by decide) mb79376 gb79376 (by omega) (by omega) hT hfr  (lv_sub hl [0, 1, 2, 3] rfl)
  have K67 : ∀ (z79379 : Int32) (F : Nat → va_E) (H : Heap) (locs : List Loc) (ls : Array Slot), (0 ≤ z79379.toInt ∧ z79379.toInt ≤ 1) → (0 ≤ p1.toInt ∧ p1.toInt ≤ 5) → (0 ≤ p2.toInt ∧ p2.toInt ≤ 5) → TH G ttC A s tag L F H locs → ((∀ b j : Nat, (tag b ≠ 22 ∨ j ≠ 2) → (tag b ≠ 26 ∨ j ≠ 13) → fld F b j = fld Fo b j) ∧ EF tag F Fo) → lv_has ls 4 [(0, .ref p0), (1, .int p1), (2, .int p2)] → W p l e { frames := 4, cells := 0, slots := 0, locals := 86 } s m args below meth c H locs 0 0 Q (F0 m 67 ls [.int z79379]) := by
    intro z79379 F H locs ls rz79379 r9s79377 r9s79378 hT hfr hl
    refine lv_istore_n (lv' := [(3, .int z79379), (0, .ref p0), (1, .int p1), (2, .int p2)]) hx hb dX11_surely_67 rfl hl (by decide) rfl (fun ls hl => ?_)
    refine lv_aload_n hx hb dX11_surely_68 rfl (lv_at hl 1 rfl) ?_
    refine lv_aload_n hx hb dX11_surely_69 rfl (lv_at hl 1 rfl) ?_
    refine t_get (C := RX11) (T := TX11) (N := 16) X hT m0 g0 rfl rfl 11 (by decide) qw_41 inlX11 rfl dX11_surely_70 (fun v79380 hv79380 ov79380 => ?_)
    obtain ⟨b79381, rfl, mb79381, gb79381⟩ := okV_r ov79380
    have gb79381 : tag b79381 = 22 := tg_of gb79381
    refine t_get (C := RX9) (T := TX9) (N := 6) X hT mb79381 gb79381 rfl rfl 2 (by decide) qw_1332 inlX9 rfl dX11_surely_73 (fun v79382 hv79382 ov79382 => ?_)
    obtain ⟨z79383, rfl, rz79383⟩ := okV_i ov79382
    refine lv_if_le (tgt := 87) hx hb dX11_surely_76 (by decide) (fun c79384 => ?_) (fun c79384 => ?_)
    · have w79385 := cv_le (rfl : z79383.toInt = z79383.toInt) (by decide : (0 : Int32).toInt = 0) c79384
      exact K87 z79379 p0 _ _ _ _ (by omega) m0 g0 (by omega) (by omega) hT hfr  (lv_sub hl [1, 2, 3, 0] rfl)
    · have w79386 := cv_nle (rfl : z79383.toInt = z79383.toInt) (by decide : (0 : Int32).toInt = 0) c79384
      refine lv_iload_n hx hb dX11_surely_79 rfl (lv_at hl 0 rfl) ?_
      refine lv_if_eq (tgt := 87) hx hb dX11_surely_80 (by decide) (fun c79387 => ?_) (fun c79387 => ?_)
      · have w79388 := cv_eq (rfl : z79379.toInt = z79379.toInt) (by decide : (0 : Int32).toInt = 0) c79387
        exact K87 z79379 p0 _ _ _ _ (by omega) m0 g0 (by omega) (by omega) hT hfr  (lv_sub hl [1, 2, 3, 0] rfl)
      · have w79389 := cv_ne (rfl : z79379.toInt = z79379.toInt) (by decide : (0 : Int32).toInt = 0) c79387
        refine lv_iconst (v := 1) hx hb dX11_surely_83 (by decide) ?_
        refine lv_goto (tgt := 88) hx hb dX11_surely_84 (by decide) ?_
        exact K88 z79379 1 p0 _ _ _ _ (by omega) (by decide) m0 g0 (by omega) (by omega) hT hfr  (lv_sub hl [1, 2, 3, 0] rfl)
  refine lv_aload_n hx hb dX11_surely_0 rfl (lv_at hl 0 rfl) ?_
  refine lv_iload_n hx hb dX11_surely_1 rfl (lv_at hl 1 rfl) ?_
  refine t_cVi (n := 1) (C := RX11) (T := TX11) (N := 16) (As := [.int p1]) (rest := []) X hT (kt92_X11_isWall l G tag L F hT.2.2.2 p0 p1 m0 g0) m0 g0 rfl rfl qw_1379 qw_1380 qw_1381 qw_2 qw_1382 ⟨rfl, by decide +kernel, by decide +kernel, by decide +kernel⟩ ⟨Nat.le_of_ble_eq_true rfl, Nat.le_of_ble_eq_true rfl⟩ hl rfl rfl (Nat.le_of_ble_eq_true rfl) dX11_surely_2 ⟨Nat.le_of_ble_eq_true rfl, Nat.le_of_ble_eq_true rfl⟩ (fun z79390 F9 H locs hT hz79390 => ?_)
  obtain ⟨fz79390, hz79390⟩ := hz79390
  rw [fz79390] at hT
  obtain ⟨hz79390, iz79390⟩ := hz79390
  refine lv_if_eq (tgt := 21) hx hb dX11_surely_5 (by decide) (fun c79391 => ?_) (fun c79391 => ?_)
  · have w79392 := cv_eq (rfl : z79390.toInt = z79390.toInt) (by decide : (0 : Int32).toInt = 0) c79391
    exact K21  _ _ _ _  hT hfr  (lv_sub hl [0, 1, 2] rfl)
  · have w79393 := cv_ne (rfl : z79390.toInt = z79390.toInt) (by decide : (0 : Int32).toInt = 0) c79391
    have w79394 := (fun h => (iz79390 h)) (by omega)
    refine lv_aload_n hx hb dX11_surely_8 rfl (lv_at hl 0 rfl) ?_
    refine lv_iload_n hx hb dX11_surely_9 rfl (lv_at hl 2 rfl) ?_
    refine t_cVi (n := 1) (C := RX11) (T := TX11) (N := 16) (As := [.int p2]) (rest := []) X hT (kt92_X11_isWall l G tag L F hT.2.2.2 p0 p2 m0 g0) m0 g0 rfl rfl qw_1379 qw_1380 qw_1381 qw_2 qw_1382 ⟨rfl, by decide +kernel, by decide +kernel, by decide +kernel⟩ ⟨Nat.le_of_ble_eq_true rfl, Nat.le_of_ble_eq_true rfl⟩ hl rfl rfl (Nat.le_of_ble_eq_true rfl) dX11_surely_10 ⟨Nat.le_of_ble_eq_true rfl, Nat.le_of_ble_eq_true rfl⟩ (fun z79395 F9 H locs hT hz79395 => ?_)
    obtain ⟨fz79395, hz79395⟩ := hz79395
    rw [fz79395] at hT
    obtain ⟨hz79395, iz79395⟩ := hz79395
    refine lv_if_eq (tgt := 21) hx hb dX11_surely_13 (by decide) (fun c79396 => ?_) (fun c79396 => ?_)
    · have w79397 := cv_eq (rfl : z79395.toInt = z79395.toInt) (by decide : (0 : Int32).toInt = 0) c79396
      exact K21  _ _ _ _  hT hfr  (lv_sub hl [0, 1, 2] rfl)
    · have w79398 := cv_ne (rfl : z79395.toInt = z79395.toInt) (by decide : (0 : Int32).toInt = 0) c79396
      have w79399 := (fun h => (iz79395 h)) (by omega)
      refine lv_iload_n hx hb dX11_surely_16 rfl (lv_at hl 1 rfl) ?_
      refine lv_iload_n hx hb dX11_surely_17 rfl (lv_at hl 2 rfl) ?_
      refine lv_icmp_ne (tgt := 27) hx hb dX11_surely_18 (by decide) (fun c79400 => ?_) (fun c79400 => ?_)
      · have w79401 := cv_ne (rfl : p1.toInt = p1.toInt) (rfl : p2.toInt = p2.toInt) c79400
        refine lv_aload_n hx hb dX11_surely_27 rfl (lv_at hl 0 rfl) ?_
        refine t_get (C := RX11) (T := TX11) (N := 16) X hT m0 g0 rfl rfl 11 (by decide) qw_41 inlX11 rfl dX11_surely_28 (fun v79402 hv79402 ov79402 => ?_)
        obtain ⟨b79403, rfl, mb79403, gb79403⟩ := okV_r ov79402
        have gb79403 : tag b79403 = 22 := tg_of gb79403
        refine lv_aload_n hx hb dX11_surely_31 rfl (lv_at hl 0 rfl) ?_
        refine t_get (C := RX11) (T := TX11) (N := 16) X hT m0 g0 rfl rfl 3 (by decide) qw_18 inlX11 rfl dX11_surely_32 (fun v79404 hv79404 ov79404 => ?_)
        obtain ⟨b79405, rfl, mb79405, gb79405⟩ := okV_r ov79404
        have gb79405 : tag b79405 = 18 := tg_of gb79405
        refine lv_aload_n hx hb dX11_surely_35 rfl (lv_at hl 0 rfl) ?_
        refine t_get (C := RX11) (T := TX11) (N := 16) X hT m0 g0 rfl rfl 5 (by decide) qw_23 inlX11 rfl dX11_surely_36 (fun v79406 hv79406 ov79406 => ?_)
        obtain ⟨b79407, rfl, mb79407, gb79407⟩ := okV_r ov79406
        have gb79407 : tag b79407 = 19 := tg_of gb79407
        refine t_get (C := RX7) (T := TX7) (N := 7) X hT mb79407 gb79407 rfl rfl 0 (by decide) qw_1225 inlX7 rfl dX11_surely_39 (fun v79408 hv79408 ov79408 => ?_)
        obtain ⟨z79409, rfl, rz79409⟩ := okV_i ov79408
        refine t_cVv (n := 2) (C := RX9) (T := TX9) (N := 6) (As := [.ref b79405, .int z79409]) (rest := []) X hT (kt159_X9_lookAtAll l G tag L F hT.2.2.2 b79403 b79405 z79409 mb79403 gb79403 mb79405 gb79405) mb79403 gb79403 rfl rfl qw_1333 qw_1334 qw_1335 qw_40 qw_1336 ⟨rfl, by decide +kernel, by decide +kernel, by decide +kernel⟩ ⟨Nat.le_of_ble_eq_true rfl, Nat.le_of_ble_eq_true rfl⟩ hl rfl rfl (Nat.le_of_ble_eq_true rfl) dX11_surely_42 ⟨Nat.le_of_ble_eq_true rfl, Nat.le_of_ble_eq_true rfl⟩ (fun F H locs hT hz79410 => ?_)
        have yz79410 := hz79410
        have hv79402 := (yz79410.1 _ 11 (Or.inr (by decide))).trans hv79402
        have hv79404 := (yz79410.1 _ 3 (Or.inr (by decide))).trans hv79404
        have hv79406 := (yz79410.1 _ 5 (Or.inr (by decide))).trans hv79406
        have hv79408 := (yz79410.1 _ 0 (Or.inr (by decide))).trans hv79408
        have hfr : (∀ b j : Nat, (tag b ≠ 22 ∨ j ≠ 2) → (tag b ≠ 26 ∨ j ≠ 13) → fld F b j = fld Fo b j) ∧ EF tag F Fo := ⟨fun b j n22_2 n26_13 => (yz79410.1 b j n22_2).trans (hfr.1 b j n22_2 n26_13), fun b j hb => (yz79410.2 b j hb).trans (hfr.2 b j hb)⟩
        refine lv_aload_n hx hb dX11_surely_45 rfl (lv_at hl 0 rfl) ?_
        refine t_get (C := RX11) (T := TX11) (N := 16) X hT m0 g0 rfl rfl 11 (by decide) qw_41 inlX11 rfl dX11_surely_46 (fun v79411 hv79411 ov79411 => ?_)
        obtain rfl : v79411 = .ref b79403 := hv79411.symm.trans hv79402
        refine t_get (C := RX9) (T := TX9) (N := 6) X hT mb79403 gb79403 rfl rfl 5 (by decide) qw_1418 inlX9 rfl dX11_surely_49 (fun v79412 hv79412 ov79412 => ?_)
        obtain ⟨b79413, rfl, mb79413, gb79413⟩ := okV_r ov79412
        have gb79413 : tag b79413 = 7 := tg_of gb79413
        refine lv_iload_n hx hb dX11_surely_52 rfl (lv_at hl 2 rfl) ?_
        refine t_ild X hT mb79413 gb79413 rfl (by omega) dX11_surely_53 (fun z79414 vz79414 rz79414 => ?_)
        have rz79414 : (-2147483648) ≤ z79414.toInt ∧ z79414.toInt ≤ 2147483647 := rz79414
        refine lv_iload_n hx hb dX11_surely_54 rfl (lv_at hl 1 rfl) ?_
        refine lv_ishr hx hb dX11_surely_55 ?_
        refine lv_topi (fun z79415 ez79415 => ?_)
        have rz79415 := rg_all z79415
        refine lv_iconst (v := 1) hx hb dX11_surely_56 (by decide) ?_
        refine lv_iand hx hb dX11_surely_57 ?_
        refine lv_topi (fun z79416 ez79416 => ?_)
        have rz79416 : 0 ≤ z79416.toInt ∧ z79416.toInt ≤ 1 := ar_and ez79416 1 (by decide) (by decide)
        refine lv_iconst (v := 1) hx hb dX11_surely_58 (by decide) ?_
        refine lv_icmp_ne (tgt := 66) hx hb dX11_surely_59 (by decide) (fun c79417 => ?_) (fun c79417 => ?_)
        · have w79418 := cv_ne (rfl : z79416.toInt = z79416.toInt) (by decide : (1 : Int32).toInt = 1) c79417
          refine lv_iconst (v := 0) hx hb dX11_surely_66 (by decide) ?_
          exact K67 0 _ _ _ _ (by decide) (by omega) (by omega) hT hfr  (lv_sub hl [0, 1, 2] rfl)
        · have w79419 := cv_eq (rfl : z79416.toInt = z79416.toInt) (by decide : (1 : Int32).toInt = 1) c79417
          refine lv_iconst (v := 1) hx hb dX11_surely_62 (by decide) ?_
          refine lv_goto (tgt := 67) hx hb dX11_surely_63 (by decide) ?_
          exact K67 1 _ _ _ _ (by decide) (by omega) (by omega) hT hfr  (lv_sub hl [0, 1, 2] rfl)
      · have w79420 := cv_eq (rfl : p1.toInt = p1.toInt) (rfl : p2.toInt = p2.toInt) c79400
        exact K21  _ _ _ _  hT hfr  (lv_sub hl [0, 1, 2] rfl)
set_option maxHeartbeats 4000000 in
set_option maxRecDepth 100000 in
theorem kt183_X11_take (l : Launch) (G : KG) (tag : Nat → Nat) (L : List Nat) (Fo : Nat → va_E) (ho : okT G ttC tag L Fo) (p0 : Nat) (p1 : Int32) (m0 : p0 ∈ L) (g0 : tag p0 = 26) : TMi l yX11_take cX11_take 4 (some .int) { frames := 3, cells := 0, slots := 0, locals := 68 } G ttC tag L Fo [.ref p0, .int p1] (fun r F1 => ((-2147483648) ≤ r.toInt ∧ r.toInt ≤ 2147483647) ∧ ((∀ b j : Nat, (tag b ≠ 19 ∨ j ≠ 0) → (tag b ≠ 19 ∨ j ≠ 1) → (tag b ≠ 23 ∨ j ≠ 2) → (tag b ≠ 23 ∨ j ≠ 3) → (tag b ≠ 26 ∨ j ≠ 13) → fld F1 b j = fld Fo b j) ∧ EF tag F1 Fo)) := by
  refine t_bodyi (y := yX11_take) (cd := cX11_take) (mL := 4) (rt := (some .int)) (rm := { frames := 3, cells := 0, slots := 0, locals := 68 }) (av := [.ref p0, .int p1]) (by decide) (Nat.le_of_ble_eq_true rfl) ho ?_
  intro p e s m args below meth c ls A Q hQ X hT hl
  have hx := X.1.1
  have hb := X.1.2.1
  have hl : lv_has ls 4 [(0, .ref p0), (1, .int p1)] := hl
  have rp1 := rg_all p1
  obtain ⟨F, hFo⟩ : ∃ F : Nat → va_E, F = Fo := ⟨_, rfl⟩
  rw [← hFo] at hT
  have hfr : (∀ b j : Nat, (tag b ≠ 19 ∨ j ≠ 0) → (tag b ≠ 19 ∨ j ≠ 1) → (tag b ≠ 23 ∨ j ≠ 2) → (tag b ≠ 23 ∨ j ≠ 3) → (tag b ≠ 26 ∨ j ≠ 13) → fld F b j = fld Fo b j) ∧ EF tag F Fo := by
    rw [hFo]
    exact ⟨by intros; rfl, fun _ _ _ => rfl⟩
  refine lv_aload_n hx hb dX11_take_0 rfl (lv_at hl 0 rfl) ?_
  refine lv_iload_n hx hb dX11_take_1 rfl (lv_at hl 1 rfl) ?_
  refine t_cVi (n := 1) (C := RX11) (T := TX11) (N := 16) (As := [.int p1]) (rest := []) X hT (kt61_X11_isHouse l G tag L F hT.2.2.2 p0 p1 m0 g0) m0 g0 rfl rfl qw_770 qw_771 qw_772 qw_2 qw_773 ⟨rfl, by decide +kernel, by decide +kernel, by decide +kernel⟩ ⟨Nat.le_of_ble_eq_true rfl, Nat.le_of_ble_eq_true rfl⟩ hl rfl rfl (Nat.le_of_ble_eq_true rfl) dX11_take_2 ⟨Nat.le_of_ble_eq_true rfl, Nat.le_of_ble_eq_true rfl⟩ (fun z79828 F9 H locs hT hz79828 => ?_)
  obtain ⟨fz79828, hz79828⟩ := hz79828
  rw [fz79828] at hT
  obtain ⟨hz79828, iz79828⟩ := hz79828
  refine lv_if_ne (tgt := 14) hx hb dX11_take_5 (by decide) (fun c79829 => ?_) (fun c79829 => ?_)
  · have w79830 := cv_ne (rfl : z79828.toInt = z79828.toInt) (by decide : (0 : Int32).toInt = 0) c79829
    have w79831 := (fun h => (iz79828 h)) (by omega)
    refine lv_aload_n hx hb dX11_take_14 rfl (lv_at hl 0 rfl) ?_
    refine t_get (C := RX11) (T := TX11) (N := 16) X hT m0 g0 rfl rfl 5 (by decide) qw_23 inlX11 rfl dX11_take_15 (fun v79832 hv79832 ov79832 => ?_)
    obtain ⟨b79833, rfl, mb79833, gb79833⟩ := okV_r ov79832
    have gb79833 : tag b79833 = 19 := tg_of gb79833
    refine lv_iload_n hx hb dX11_take_18 rfl (lv_at hl 1 rfl) ?_
    refine t_cVi (n := 1) (C := RX7) (T := TX7) (N := 7) (As := [.int p1]) (rest := []) X hT (kt21_X7_inmost l G tag L F hT.2.2.2 b79833 p1 mb79833 gb79833 (by omega)) mb79833 gb79833 rfl rfl qw_1292 qw_1293 qw_1294 qw_22 qw_1295 ⟨rfl, by decide +kernel, by decide +kernel, by decide +kernel⟩ ⟨Nat.le_of_ble_eq_true rfl, Nat.le_of_ble_eq_true rfl⟩ hl rfl rfl (Nat.le_of_ble_eq_true rfl) dX11_take_19 ⟨Nat.le_of_ble_eq_true rfl, Nat.le_of_ble_eq_true rfl⟩ (fun z79834 F9 H locs hT hz79834 => ?_)
    obtain ⟨fz79834, hz79834⟩ := hz79834
    rw [fz79834] at hT
    refine lv_istore_n (lv' := [(2, .int z79834), (0, .ref p0), (1, .int p1)]) hx hb dX11_take_22 rfl hl (by decide) rfl (fun ls hl => ?_)
    refine lv_iload_n hx hb dX11_take_23 rfl (lv_at hl 0 rfl) ?_
    refine lv_if_ne (tgt := 34) hx hb dX11_take_24 (by decide) (fun c79835 => ?_) (fun c79835 => ?_)
    · have w79836 := cv_ne (rfl : z79834.toInt = z79834.toInt) (by decide : (0 : Int32).toInt = 0) c79835
      refine lv_aload_n hx hb dX11_take_34 rfl (lv_at hl 1 rfl) ?_
      refine lv_iload_n hx hb dX11_take_35 rfl (lv_at hl 2 rfl) ?_
      refine lv_iload_n hx hb dX11_take_36 rfl (lv_at hl 0 rfl) ?_
      refine t_cVi (n := 2) (C := RX11) (T := TX11) (N := 16) (As := [.int p1, .int z79834]) (rest := []) X hT (kt76_X11_isLivedIn l G tag L F hT.2.2.2 p0 p1 z79834 m0 g0) m0 g0 rfl rfl qw_1316 qw_1317 qw_1318 qw_2 qw_1319 ⟨rfl, by decide +kernel, by decide +kernel, by decide +kernel⟩ ⟨Nat.le_of_ble_eq_true rfl, Nat.le_of_ble_eq_true rfl⟩ hl rfl rfl (Nat.le_of_ble_eq_true rfl) dX11_take_37 ⟨Nat.le_of_ble_eq_true rfl, Nat.le_of_ble_eq_true rfl⟩ (fun z79837 F9 H locs hT hz79837 => ?_)
      obtain ⟨fz79837, hz79837⟩ := hz79837
      rw [fz79837] at hT
      refine lv_if_eq (tgt := 49) hx hb dX11_take_40 (by decide) (fun c79838 => ?_) (fun c79838 => ?_)
      · have w79839 := cv_eq (rfl : z79837.toInt = z79837.toInt) (by decide : (0 : Int32).toInt = 0) c79838
        refine lv_aload_n hx hb dX11_take_49 rfl (lv_at hl 1 rfl) ?_
        refine t_get (C := RX11) (T := TX11) (N := 16) X hT m0 g0 rfl rfl 12 (by decide) qw_45 inlX11 rfl dX11_take_50 (fun v79840 hv79840 ov79840 => ?_)
        obtain ⟨b79841, rfl, mb79841, gb79841⟩ := okV_r ov79840
        have gb79841 : tag b79841 = 23 := tg_of gb79841
        refine lv_aload_n hx hb dX11_take_53 rfl (lv_at hl 1 rfl) ?_
        refine t_get (C := RX11) (T := TX11) (N := 16) X hT m0 g0 rfl rfl 5 (by decide) qw_23 inlX11 rfl dX11_take_54 (fun v79842 hv79842 ov79842 => ?_)
        obtain rfl : v79842 = .ref b79833 := hv79842.symm.trans hv79832
        refine t_cVv (n := 1) (C := RX2) (T := TX2) (N := 5) (As := [.ref b79833]) (rest := []) X hT (kt66_X2_keep l G tag L F hT.2.2.2 b79841 b79833 mb79841 gb79841 mb79833 gb79833) mb79841 gb79841 rfl rfl qw_1427 qw_1428 qw_1429 qw_44 qw_1430 ⟨rfl, by decide +kernel, by decide +kernel, by decide +kernel⟩ ⟨Nat.le_of_ble_eq_true rfl, Nat.le_of_ble_eq_true rfl⟩ hl rfl rfl (Nat.le_of_ble_eq_true rfl) dX11_take_57 ⟨Nat.le_of_ble_eq_true rfl, Nat.le_of_ble_eq_true rfl⟩ (fun F H locs hT hz79843 => ?_)
        have yz79843 := hz79843
        have hv79832 := (yz79843.1 _ 5 (Or.inr (by decide)) (Or.inr (by decide)) (Or.inr (by decide)) (Or.inr (by decide))).trans hv79832
        have hv79840 := (yz79843.1 _ 12 (Or.inr (by decide)) (Or.inr (by decide)) (Or.inr (by decide)) (Or.inr (by decide))).trans hv79840
        have hfr : (∀ b j : Nat, (tag b ≠ 19 ∨ j ≠ 0) → (tag b ≠ 19 ∨ j ≠ 1) → (tag b ≠ 23 ∨ j ≠ 2) → (tag b ≠ 23 ∨ j ≠ 3) → (tag b ≠ 26 ∨ j ≠ 13) → fld F b j = fld Fo b j) ∧ EF tag F Fo := ⟨fun b j n19_0 n19_1 n23_2 n23_3 n26_13 => (yz79843.1 b j n19_0 n19_1 n23_2 n23_3).trans (hfr.1 b j n19_0 n19_1 n23_2 n23_3 n26_13), fun b j hb => (yz79843.2 b j hb).trans (hfr.2 b j hb)⟩
        refine lv_aload_n hx hb dX11_take_60 rfl (lv_at hl 1 rfl) ?_
        refine lv_iload_n hx hb dX11_take_61 rfl (lv_at hl 2 rfl) ?_
        refine lv_iload_n hx hb dX11_take_62 rfl (lv_at hl 0 rfl) ?_
        refine t_cVi (n := 2) (C := RX11) (T := TX11) (N := 16) (As := [.int p1, .int z79834]) (rest := []) X hT (kt84_X11_goldIn l G tag L F hT.2.2.2 p0 p1 z79834 m0 g0) m0 g0 rfl rfl qw_1296 qw_1297 qw_1298 qw_2 qw_1299 ⟨rfl, by decide +kernel, by decide +kernel, by decide +kernel⟩ ⟨Nat.le_of_ble_eq_true rfl, Nat.le_of_ble_eq_true rfl⟩ hl rfl rfl (Nat.le_of_ble_eq_true rfl) dX11_take_63 ⟨Nat.le_of_ble_eq_true rfl, Nat.le_of_ble_eq_true rfl⟩ (fun z79844 F9 H locs hT hz79844 => ?_)
        obtain ⟨fz79844, hz79844⟩ := hz79844
        rw [fz79844] at hT
        refine lv_istore_n (lv' := [(3, .int z79844), (2, .int z79834), (0, .ref p0), (1, .int p1)]) hx hb dX11_take_66 rfl hl (by decide) rfl (fun ls hl => ?_)
        refine lv_aload_n hx hb dX11_take_67 rfl (lv_at hl 2 rfl) ?_
        refine t_get (C := RX11) (T := TX11) (N := 16) X hT m0 g0 rfl rfl 5 (by decide) qw_23 inlX11 rfl dX11_take_68 (fun v79845 hv79845 ov79845 => ?_)
        obtain rfl : v79845 = .ref b79833 := hv79845.symm.trans hv79832
        refine t_get (C := RX7) (T := TX7) (N := 7) X hT mb79833 gb79833 rfl rfl 4 (by decide) qw_768 inlX7 rfl dX11_take_71 (fun v79846 hv79846 ov79846 => ?_)
        obtain ⟨b79847, rfl, mb79847, gb79847⟩ := okV_r ov79846
        have gb79847 : tag b79847 = 5 := tg_of gb79847
        refine lv_iload_n hx hb dX11_take_74 rfl (lv_at hl 3 rfl) ?_
        refine lv_sipush (v := 999) hx hb dX11_take_75 (by decide) ?_
        refine lv_aload_n hx hb dX11_take_78 rfl (lv_at hl 2 rfl) ?_
        refine t_get (C := RX11) (T := TX11) (N := 16) X hT m0 g0 rfl rfl 5 (by decide) qw_23 inlX11 rfl dX11_take_79 (fun v79848 hv79848 ov79848 => ?_)
        obtain rfl : v79848 = .ref b79833 := hv79848.symm.trans hv79832
        refine t_get (C := RX7) (T := TX7) (N := 7) X hT mb79833 gb79833 rfl rfl 4 (by decide) qw_768 inlX7 rfl dX11_take_82 (fun v79849 hv79849 ov79849 => ?_)
        obtain rfl : v79849 = .ref b79847 := hv79849.symm.trans hv79846
        refine lv_iload_n hx hb dX11_take_85 rfl (lv_at hl 3 rfl) ?_
        refine t_ild X hT mb79847 gb79847 rfl (by omega) dX11_take_86 (fun z79850 vz79850 rz79850 => ?_)
        have rz79850 : (-2147483648) ≤ z79850.toInt ∧ z79850.toInt ≤ 2147483647 := rz79850
        refine lv_iload_n hx hb dX11_take_87 rfl (lv_at hl 0 rfl) ?_
        refine lv_iadd hx hb dX11_take_88 ?_
        refine lv_topi (fun z79851 ez79851 => ?_)
        have rz79851 := rg_all z79851
        refine t_mmin X hl qw_1480 qw_1018 qw_850 qw_1019 (Nat.le_of_ble_eq_true rfl) (Nat.le_of_ble_eq_true rfl) (Nat.le_of_ble_eq_true rfl) (Nat.le_of_ble_eq_true rfl) dX11_take_89 (fun z79852 ez79852 => ?_)
        have hz79852 := mmin_e ez79852 (by decide : (999 : Int32).toInt = 999) (rfl : z79851.toInt = z79851.toInt)
        refine t_ist X hT mb79847 gb79847 rfl (by omega) (show (-2147483648) ≤ (z79852 : Int32).toInt ∧ (z79852 : Int32).toInt ≤ 2147483647 from (by omega)) dX11_take_92 (fun F H locs hT v79853 h1v79853 h2v79853 => ?_)
        have hv79832 := (h2v79853 _ _).trans hv79832
        have hv79840 := (h2v79853 _ _).trans hv79840
        have hv79846 := (h2v79853 _ _).trans hv79846
        have hfr : (∀ b j : Nat, (tag b ≠ 19 ∨ j ≠ 0) → (tag b ≠ 19 ∨ j ≠ 1) → (tag b ≠ 23 ∨ j ≠ 2) → (tag b ≠ 23 ∨ j ≠ 3) → (tag b ≠ 26 ∨ j ≠ 13) → fld F b j = fld Fo b j) ∧ EF tag F Fo := ⟨fun b j n19_0 n19_1 n23_2 n23_3 n26_13 => (h2v79853 b j).trans (hfr.1 b j n19_0 n19_1 n23_2 n23_3 n26_13), fun b j hb => (h1v79853 b j (Or.inl (ns_ne hb gb79847 (by decide)))).trans (hfr.2 b j hb)⟩
        refine lv_aload_n hx hb dX11_take_93 rfl (lv_at hl 2 rfl) ?_
        refine t_get (C := RX11) (T := TX11) (N := 16) X hT m0 g0 rfl rfl 5 (by decide) qw_23 inlX11 rfl dX11_take_94 (fun v79854 hv79854 ov79854 => ?_)
        obtain rfl : v79854 = .ref b79833 := hv79854.symm.trans hv79832
        refine lv_iload_n hx hb dX11_take_97 rfl (lv_at hl 3 rfl) ?_
        refine lv_iload_n hx hb dX11_take_98 rfl (lv_at hl 1 rfl) ?_
        refine lv_iconst (v := 5) hx hb dX11_take_99 (by decide) ?_
        refine lv_iconst (v := 1) hx hb dX11_take_100 (by decide) ?_
        refine t_cVv (n := 4) (C := RX7) (T := TX7) (N := 7) (As := [.int p1, .int z79834, .int 5, .int 1]) (rest := []) X hT (kt16_X7_setPart l G tag L F hT.2.2.2 b79833 p1 z79834 5 1 mb79833 gb79833) mb79833 gb79833 rfl rfl qw_1459 qw_423 qw_424 qw_22 qw_425 ⟨rfl, by decide +kernel, by decide +kernel, by decide +kernel⟩ ⟨Nat.le_of_ble_eq_true rfl, Nat.le_of_ble_eq_true rfl⟩ hl rfl rfl (Nat.le_of_ble_eq_true rfl) dX11_take_101 ⟨Nat.le_of_ble_eq_true rfl, Nat.le_of_ble_eq_true rfl⟩ (fun F H locs hT hz79855 => ?_)
        have yz79855 := hz79855
        have hv79832 := (yz79855.1 _ 5 ).trans hv79832
        have hv79840 := (yz79855.1 _ 12 ).trans hv79840
        have hv79846 := (yz79855.1 _ 4 ).trans hv79846
        have hfr : (∀ b j : Nat, (tag b ≠ 19 ∨ j ≠ 0) → (tag b ≠ 19 ∨ j ≠ 1) → (tag b ≠ 23 ∨ j ≠ 2) → (tag b ≠ 23 ∨ j ≠ 3) → (tag b ≠ 26 ∨ j ≠ 13) → fld F b j = fld Fo b j) ∧ EF tag F Fo := ⟨fun b j n19_0 n19_1 n23_2 n23_3 n26_13 => (yz79855.1 b j ).trans (hfr.1 b j n19_0 n19_1 n23_2 n23_3 n26_13), fun b j hb => (yz79855.2 b j hb).trans (hfr.2 b j hb)⟩
        refine lv_aload_n hx hb dX11_take_104 rfl (lv_at hl 2 rfl) ?_
        refine t_get (C := RX11) (T := TX11) (N := 16) X hT m0 g0 rfl rfl 5 (by decide) qw_23 inlX11 rfl dX11_take_105 (fun v79856 hv79856 ov79856 => ?_)
        obtain rfl : v79856 = .ref b79833 := hv79856.symm.trans hv79832
        refine lv_iload_n hx hb dX11_take_108 rfl (lv_at hl 3 rfl) ?_
        refine lv_iload_n hx hb dX11_take_109 rfl (lv_at hl 1 rfl) ?_
        refine lv_bipush (v := 6) hx hb dX11_take_110 (by decide) ?_
        refine lv_iconst (v := 0) hx hb dX11_take_112 (by decide) ?_
        refine t_cVv (n := 4) (C := RX7) (T := TX7) (N := 7) (As := [.int p1, .int z79834, .int 6, .int 0]) (rest := []) X hT (kt16_X7_setPart l G tag L F hT.2.2.2 b79833 p1 z79834 6 0 mb79833 gb79833) mb79833 gb79833 rfl rfl qw_1459 qw_423 qw_424 qw_22 qw_425 ⟨rfl, by decide +kernel, by decide +kernel, by decide +kernel⟩ ⟨Nat.le_of_ble_eq_true rfl, Nat.le_of_ble_eq_true rfl⟩ hl rfl rfl (Nat.le_of_ble_eq_true rfl) dX11_take_113 ⟨Nat.le_of_ble_eq_true rfl, Nat.le_of_ble_eq_true rfl⟩ (fun F H locs hT hz79857 => ?_)
        have yz79857 := hz79857
        have hv79832 := (yz79857.1 _ 5 ).trans hv79832
        have hv79840 := (yz79857.1 _ 12 ).trans hv79840
        have hv79846 := (yz79857.1 _ 4 ).trans hv79846
        have hfr : (∀ b j : Nat, (tag b ≠ 19 ∨ j ≠ 0) → (tag b ≠ 19 ∨ j ≠ 1) → (tag b ≠ 23 ∨ j ≠ 2) → (tag b ≠ 23 ∨ j ≠ 3) → (tag b ≠ 26 ∨ j ≠ 13) → fld F b j = fld Fo b j) ∧ EF tag F Fo := ⟨fun b j n19_0 n19_1 n23_2 n23_3 n26_13 => (yz79857.1 b j ).trans (hfr.1 b j n19_0 n19_1 n23_2 n23_3 n26_13), fun b j hb => (yz79857.2 b j hb).trans (hfr.2 b j hb)⟩
        refine lv_aload_n hx hb dX11_take_116 rfl (lv_at hl 2 rfl) ?_
        refine lv_iload_n hx hb dX11_take_117 rfl (lv_at hl 0 rfl) ?_
        refine t_cVi (n := 1) (C := RX11) (T := TX11) (N := 16) (As := [.int z79844]) (rest := []) X hT (kt56_X11_answer l G tag L F hT.2.2.2 p0 z79844 m0 g0) m0 g0 rfl rfl qw_463 qw_464 qw_465 qw_2 qw_466 ⟨rfl, by decide +kernel, by decide +kernel, by decide +kernel⟩ ⟨Nat.le_of_ble_eq_true rfl, Nat.le_of_ble_eq_true rfl⟩ hl rfl rfl (Nat.le_of_ble_eq_true rfl) dX11_take_118 ⟨Nat.le_of_ble_eq_true rfl, Nat.le_of_ble_eq_true rfl⟩ (fun z79858 F H locs hT hz79858 => ?_)
        obtain ⟨hz79858, yz79858⟩ := hz79858
        have hv79832 := (yz79858.1 _ 5 (Or.inr (by decide))).trans hv79832
        have hv79840 := (yz79858.1 _ 12 (Or.inr (by decide))).trans hv79840
        have hv79846 := (yz79858.1 _ 4 (Or.inr (by decide))).trans hv79846
        have hfr : (∀ b j : Nat, (tag b ≠ 19 ∨ j ≠ 0) → (tag b ≠ 19 ∨ j ≠ 1) → (tag b ≠ 23 ∨ j ≠ 2) → (tag b ≠ 23 ∨ j ≠ 3) → (tag b ≠ 26 ∨ j ≠ 13) → fld F b j = fld Fo b j) ∧ EF tag F Fo := ⟨fun b j n19_0 n19_1 n23_2 n23_3 n26_13 => (yz79858.1 b j n26_13).trans (hfr.1 b j n19_0 n19_1 n23_2 n23_3 n26_13), fun b j hb => (yz79858.2 b j hb).trans (hfr.2 b j hb)⟩
        exact t_iret hQ X hT (⟨rg_all _, hfr⟩) (Nat.le_of_ble_eq_true rfl) (Nat.le_of_ble_eq_true rfl) dX11_take_121
      · have w79859 := cv_ne (rfl : z79837.toInt = z79837.toInt) (by decide : (0 : Int32).toInt = 0) c79838
        refine lv_aload_n hx hb dX11_take_43 rfl (lv_at hl 1 rfl) ?_
        refine lv_iconst (v := 5) hx hb dX11_take_44 (by decide) ?_
        refine t_cVi (n := 1) (C := RX11) (T := TX11) (N := 16) (As := [.int 5]) (rest := []) X hT (kt63_X11_refuse l G tag L F hT.2.2.2 p0 5 m0 g0) m0 g0 rfl rfl qw_152 qw_153 qw_154 qw_2 qw_155 ⟨rfl, by decide +kernel, by decide +kernel, by decide +kernel⟩ ⟨Nat.le_of_ble_eq_true rfl, Nat.le_of_ble_eq_true rfl⟩ hl rfl rfl (Nat.le_of_ble_eq_true rfl) dX11_take_45 ⟨Nat.le_of_ble_eq_true rfl, Nat.le_of_ble_eq_true rfl⟩ (fun z79860 F H locs hT hz79860 => ?_)
        obtain ⟨hz79860, yz79860⟩ := hz79860
        have hv79832 := (yz79860.1 _ 5 (Or.inr (by decide))).trans hv79832
        have hfr : (∀ b j : Nat, (tag b ≠ 19 ∨ j ≠ 0) → (tag b ≠ 19 ∨ j ≠ 1) → (tag b ≠ 23 ∨ j ≠ 2) → (tag b ≠ 23 ∨ j ≠ 3) → (tag b ≠ 26 ∨ j ≠ 13) → fld F b j = fld Fo b j) ∧ EF tag F Fo := ⟨fun b j n19_0 n19_1 n23_2 n23_3 n26_13 => (yz79860.1 b j n26_13).trans (hfr.1 b j n19_0 n19_1 n23_2 n23_3 n26_13), fun b j hb => (yz79860.2 b j hb).trans (hfr.2 b j hb)⟩
        exact t_iret hQ X hT (⟨rg_all _, hfr⟩) (Nat.le_of_ble_eq_true rfl) (Nat.le_of_ble_eq_true rfl) dX11_take_48
    · have w79861 := cv_eq (rfl : z79834.toInt = z79834.toInt) (by decide : (0 : Int32).toInt = 0) c79835
      refine lv_aload_n hx hb dX11_take_27 rfl (lv_at hl 1 rfl) ?_
      refine lv_bipush (v := 6) hx hb dX11_take_28 (by decide) ?_
      refine t_cVi (n := 1) (C := RX11) (T := TX11) (N := 16) (As := [.int 6]) (rest := []) X hT (kt63_X11_refuse l G tag L F hT.2.2.2 p0 6 m0 g0) m0 g0 rfl rfl qw_152 qw_153 qw_154 qw_2 qw_155 ⟨rfl, by decide +kernel, by decide +kernel, by decide +kernel⟩ ⟨Nat.le_of_ble_eq_true rfl, Nat.le_of_ble_eq_true rfl⟩ hl rfl rfl (Nat.le_of_ble_eq_true rfl) dX11_take_30 ⟨Nat.le_of_ble_eq_true rfl, Nat.le_of_ble_eq_true rfl⟩ (fun z79862 F H locs hT hz79862 => ?_)
      obtain ⟨hz79862, yz79862⟩ := hz79862
      have hv79832 := (yz79862.1 _ 5 (Or.inr (by decide))).trans hv79832
      have hfr : (∀ b j : Nat, (tag b ≠ 19 ∨ j ≠ 0) → (tag b ≠ 19 ∨ j ≠ 1) → (tag b ≠ 23 ∨ j ≠ 2) → (tag b ≠ 23 ∨ j ≠ 3) → (tag b ≠ 26 ∨ j ≠ 13) → fld F b j = fld Fo b j) ∧ EF tag F Fo := ⟨fun b j n19_0 n19_1 n23_2 n23_3 n26_13 => (yz79862.1 b j n26_13).trans (hfr.1 b j n19_0 n19_1 n23_2 n23_3 n26_13), fun b j hb => (yz79862.2 b j hb).trans (hfr.2 b j hb)⟩
      exact t_iret hQ X hT (⟨rg_all _, hfr⟩) (Nat.le_of_ble_eq_true rfl) (Nat.le_of_ble_eq_true rfl) dX11_take_33
  · have w79863 := cv_eq (rfl : z79828.toInt = z79828.toInt) (by decide : (0 : Int32).toInt = 0) c79829
    refine lv_aload_n hx hb dX11_take_8 rfl (lv_at hl 0 rfl) ?_
    refine lv_iconst (v := 1) hx hb dX11_take_9 (by decide) ?_
    refine t_cVi (n := 1) (C := RX11) (T := TX11) (N := 16) (As := [.int 1]) (rest := []) X hT (kt63_X11_refuse l G tag L F hT.2.2.2 p0 1 m0 g0) m0 g0 rfl rfl qw_152 qw_153 qw_154 qw_2 qw_155 ⟨rfl, by decide +kernel, by decide +kernel, by decide +kernel⟩ ⟨Nat.le_of_ble_eq_true rfl, Nat.le_of_ble_eq_true rfl⟩ hl rfl rfl (Nat.le_of_ble_eq_true rfl) dX11_take_10 ⟨Nat.le_of_ble_eq_true rfl, Nat.le_of_ble_eq_true rfl⟩ (fun z79864 F H locs hT hz79864 => ?_)
    obtain ⟨hz79864, yz79864⟩ := hz79864
    have hfr : (∀ b j : Nat, (tag b ≠ 19 ∨ j ≠ 0) → (tag b ≠ 19 ∨ j ≠ 1) → (tag b ≠ 23 ∨ j ≠ 2) → (tag b ≠ 23 ∨ j ≠ 3) → (tag b ≠ 26 ∨ j ≠ 13) → fld F b j = fld Fo b j) ∧ EF tag F Fo := ⟨fun b j n19_0 n19_1 n23_2 n23_3 n26_13 => (yz79864.1 b j n26_13).trans (hfr.1 b j n19_0 n19_1 n23_2 n23_3 n26_13), fun b j hb => (yz79864.2 b j hb).trans (hfr.2 b j hb)⟩
    exact t_iret hQ X hT (⟨rg_all _, hfr⟩) (Nat.le_of_ble_eq_true rfl) (Nat.le_of_ble_eq_true rfl) dX11_take_13
set_option maxHeartbeats 4000000 in
set_option maxRecDepth 100000 in
theorem kt184_X11_takes (l : Launch) (G : KG) (tag : Nat → Nat) (L : List Nat) (Fo : Nat → va_E) (ho : okT G ttC tag L Fo) (p0 : Nat) (p1 : Int32) (m0 : p0 ∈ L) (g0 : tag p0 = 26) : TMi l yX11_takes cX11_takes 3 (some .int) { frames := 3, cells := 0, slots := 0, locals := 68 } G ttC tag L Fo [.ref p0, .int p1] (fun r F1 => ((-2147483648) ≤ r.toInt ∧ r.toInt ≤ 2147483647) ∧ ((∀ b j : Nat, (tag b ≠ 26 ∨ j ≠ 13) → fld F1 b j = fld Fo b j) ∧ EF tag F1 Fo)) := by
  refine t_bodyi (y := yX11_takes) (cd := cX11_takes) (mL := 3) (rt := (some .int)) (rm := { frames := 3, cells := 0, slots := 0, locals := 68 }) (av := [.ref p0, .int p1]) (by decide) (Nat.le_of_ble_eq_true rfl) ho ?_
  intro p e s m args below meth c ls A Q hQ X hT hl
  have hx := X.1.1
  have hb := X.1.2.1
  have hl : lv_has ls 3 [(0, .ref p0), (1, .int p1)] := hl
  have rp1 := rg_all p1
  obtain ⟨F, hFo⟩ : ∃ F : Nat → va_E, F = Fo := ⟨_, rfl⟩
  rw [← hFo] at hT
  have hfr : (∀ b j : Nat, (tag b ≠ 26 ∨ j ≠ 13) → fld F b j = fld Fo b j) ∧ EF tag F Fo := by
    rw [hFo]
    exact ⟨by intros; rfl, fun _ _ _ => rfl⟩
  have K39 : ∀ (z80042 : Int32) (z80043 : Int32) (b80044 : Nat) (F : Nat → va_E) (H : Heap) (locs : List Loc) (ls : Array Slot), (0 ≤ z80042.toInt ∧ z80042.toInt ≤ 6) → (b80044 ∈ L) → (tag b80044 = 26) → (0 ≤ p1.toInt ∧ p1.toInt ≤ 3) → TH G ttC A s tag L F H locs → ((∀ b j : Nat, (tag b ≠ 26 ∨ j ≠ 13) → fld F b j = fld Fo b j) ∧ EF tag F Fo) → lv_has ls 3 [(0, .ref p0), (1, .int p1), (2, .int z80042)] → W p l e { frames := 3, cells := 0, slots := 0, locals := 68 } s m args below meth c H locs 0 0 Q (F0 m 39 ls [.int z80043, .ref b80044]) := by
    intro z80042 z80043 b80044 F H locs ls rz80042 mb80044 gb80044 r9s80041 hT hfr hl
    have rz80043 := rg_all z80043
    refine t_cVi (n := 1) (C := RX11) (T := TX11) (N := 16) (As := [.int z80043]) (rest := []) X hT (kt56_X11_answer l G tag L F hT.2.2.2 b80044 z80043 mb80044 gb80044) mb80044 gb80044 rfl rfl qw_463 qw_464 qw_465 qw_2 qw_466 ⟨rfl, by decide +kernel, by decide +kernel, by decide +kernel⟩ ⟨Nat.le_of_ble_eq_true rfl, Nat.le_of_ble_eq_true rfl⟩ hl rfl rfl (Nat.le_of_ble_eq_true rfl) dX11_takes_39 ⟨Nat.le_of_ble_eq_true rfl, Nat.le_of_ble_eq_true rfl⟩ (fun z80045 F H locs hT hz80045 => ?_)
    obtain ⟨hz80045, yz80045⟩ := hz80045
    have hfr : (∀ b j : Nat, (tag b ≠ 26 ∨ j ≠ 13) → fld F b j = fld Fo b j) ∧ EF tag F Fo := ⟨fun b j n26_13 => (yz80045.1 b j n26_13).trans (hfr.1 b j n26_13), fun b j hb => (yz80045.2 b j hb).trans (hfr.2 b j hb)⟩
    exact t_iret hQ X hT (⟨rg_all _, hfr⟩) (Nat.le_of_ble_eq_true rfl) (Nat.le_of_ble_eq_true rfl) dX11_takes_42
  refine lv_aload_n hx hb dX11_takes_0 rfl (lv_at hl 0 rfl) ?_
  refine lv_iload_n hx hb dX11_takes_1 rfl (lv_at hl 1 rfl) ?_
  refine t_cVi (n := 1) (C := RX11) (T := TX11) (N := 16) (As := [.int p1]) (rest := []) X hT (kt61_X11_isHouse l G tag L F hT.2.2.2 p0 p1 m0 g0) m0 g0 rfl rfl qw_770 qw_771 qw_772 qw_2 qw_773 ⟨rfl, by decide +kernel, by decide +kernel, by decide +kernel⟩ ⟨Nat.le_of_ble_eq_true rfl, Nat.le_of_ble_eq_true rfl⟩ hl rfl rfl (Nat.le_of_ble_eq_true rfl) dX11_takes_2 ⟨Nat.le_of_ble_eq_true rfl, Nat.le_of_ble_eq_true rfl⟩ (fun z80046 F9 H locs hT hz80046 => ?_)
  obtain ⟨fz80046, hz80046⟩ := hz80046
  rw [fz80046] at hT
  obtain ⟨hz80046, iz80046⟩ := hz80046
  refine lv_if_ne (tgt := 14) hx hb dX11_takes_5 (by decide) (fun c80047 => ?_) (fun c80047 => ?_)
  · have w80048 := cv_ne (rfl : z80046.toInt = z80046.toInt) (by decide : (0 : Int32).toInt = 0) c80047
    have w80049 := (fun h => (iz80046 h)) (by omega)
    refine lv_aload_n hx hb dX11_takes_14 rfl (lv_at hl 0 rfl) ?_
    refine t_get (C := RX11) (T := TX11) (N := 16) X hT m0 g0 rfl rfl 5 (by decide) qw_23 inlX11 rfl dX11_takes_15 (fun v80050 hv80050 ov80050 => ?_)
    obtain ⟨b80051, rfl, mb80051, gb80051⟩ := okV_r ov80050
    have gb80051 : tag b80051 = 19 := tg_of gb80051
    refine lv_iload_n hx hb dX11_takes_18 rfl (lv_at hl 1 rfl) ?_
    refine t_cVi (n := 1) (C := RX7) (T := TX7) (N := 7) (As := [.int p1]) (rest := []) X hT (kt21_X7_inmost l G tag L F hT.2.2.2 b80051 p1 mb80051 gb80051 (by omega)) mb80051 gb80051 rfl rfl qw_1292 qw_1293 qw_1294 qw_22 qw_1295 ⟨rfl, by decide +kernel, by decide +kernel, by decide +kernel⟩ ⟨Nat.le_of_ble_eq_true rfl, Nat.le_of_ble_eq_true rfl⟩ hl rfl rfl (Nat.le_of_ble_eq_true rfl) dX11_takes_19 ⟨Nat.le_of_ble_eq_true rfl, Nat.le_of_ble_eq_true rfl⟩ (fun z80052 F9 H locs hT hz80052 => ?_)
    obtain ⟨fz80052, hz80052⟩ := hz80052
    rw [fz80052] at hT
    refine lv_istore_n (lv' := [(2, .int z80052), (0, .ref p0), (1, .int p1)]) hx hb dX11_takes_22 rfl hl (by decide) rfl (fun ls hl => ?_)
    refine lv_aload_n hx hb dX11_takes_23 rfl (lv_at hl 1 rfl) ?_
    refine lv_iload_n hx hb dX11_takes_24 rfl (lv_at hl 0 rfl) ?_
    refine lv_if_ne (tgt := 33) hx hb dX11_takes_25 (by decide) (fun c80053 => ?_) (fun c80053 => ?_)
    · have w80054 := cv_ne (rfl : z80052.toInt = z80052.toInt) (by decide : (0 : Int32).toInt = 0) c80053
      refine lv_aload_n hx hb dX11_takes_33 rfl (lv_at hl 1 rfl) ?_
      refine lv_iload_n hx hb dX11_takes_34 rfl (lv_at hl 2 rfl) ?_
      refine lv_iload_n hx hb dX11_takes_35 rfl (lv_at hl 0 rfl) ?_
      refine t_cVi (n := 2) (C := RX11) (T := TX11) (N := 16) (As := [.int p1, .int z80052]) (rest := [.ref p0]) X hT (kt84_X11_goldIn l G tag L F hT.2.2.2 p0 p1 z80052 m0 g0) m0 g0 rfl rfl qw_1296 qw_1297 qw_1298 qw_2 qw_1299 ⟨rfl, by decide +kernel, by decide +kernel, by decide +kernel⟩ ⟨Nat.le_of_ble_eq_true rfl, Nat.le_of_ble_eq_true rfl⟩ hl rfl rfl (Nat.le_of_ble_eq_true rfl) dX11_takes_36 ⟨Nat.le_of_ble_eq_true rfl, Nat.le_of_ble_eq_true rfl⟩ (fun z80055 F9 H locs hT hz80055 => ?_)
      obtain ⟨fz80055, hz80055⟩ := hz80055
      rw [fz80055] at hT
      exact K39 z80052 z80055 p0 _ _ _ _ (by omega) m0 g0 (by omega) hT hfr  (lv_sub hl [1, 2, 0] rfl)
    · have w80056 := cv_eq (rfl : z80052.toInt = z80052.toInt) (by decide : (0 : Int32).toInt = 0) c80053
      refine lv_bipush (v := (-2)) hx hb dX11_takes_28 (by decide) ?_
      refine lv_goto (tgt := 39) hx hb dX11_takes_30 (by decide) ?_
      exact K39 z80052 (-2) p0 _ _ _ _ (by omega) m0 g0 (by omega) hT hfr  (lv_sub hl [1, 2, 0] rfl)
  · have w80057 := cv_eq (rfl : z80046.toInt = z80046.toInt) (by decide : (0 : Int32).toInt = 0) c80047
    refine lv_aload_n hx hb dX11_takes_8 rfl (lv_at hl 0 rfl) ?_
    refine lv_iconst (v := 1) hx hb dX11_takes_9 (by decide) ?_
    refine t_cVi (n := 1) (C := RX11) (T := TX11) (N := 16) (As := [.int 1]) (rest := []) X hT (kt63_X11_refuse l G tag L F hT.2.2.2 p0 1 m0 g0) m0 g0 rfl rfl qw_152 qw_153 qw_154 qw_2 qw_155 ⟨rfl, by decide +kernel, by decide +kernel, by decide +kernel⟩ ⟨Nat.le_of_ble_eq_true rfl, Nat.le_of_ble_eq_true rfl⟩ hl rfl rfl (Nat.le_of_ble_eq_true rfl) dX11_takes_10 ⟨Nat.le_of_ble_eq_true rfl, Nat.le_of_ble_eq_true rfl⟩ (fun z80058 F H locs hT hz80058 => ?_)
    obtain ⟨hz80058, yz80058⟩ := hz80058
    have hfr : (∀ b j : Nat, (tag b ≠ 26 ∨ j ≠ 13) → fld F b j = fld Fo b j) ∧ EF tag F Fo := ⟨fun b j n26_13 => (yz80058.1 b j n26_13).trans (hfr.1 b j n26_13), fun b j hb => (yz80058.2 b j hb).trans (hfr.2 b j hb)⟩
    exact t_iret hQ X hT (⟨rg_all _, hfr⟩) (Nat.le_of_ble_eq_true rfl) (Nat.le_of_ble_eq_true rfl) dX11_takes_13
