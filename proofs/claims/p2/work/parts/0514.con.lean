set_option maxHeartbeats 4000000 in
set_option maxRecDepth 100000 in
theorem kt108_X11_latest (l : Launch) (G : KG) (tag : Nat → Nat) (L : List Nat) (Fo : Nat → va_E) (ho : okT G ttC tag L Fo) (p0 : Nat) (p1 : Int32) (m0 : p0 ∈ L) (g0 : tag p0 = 26) : TMi l yX11_latest cX11_latest 2 (some .int) { frames := 4, cells := 0, slots := 0, locals := 86 } G ttC tag L Fo [.ref p0, .int p1] (fun r F1 => ((-2147483648) ≤ r.toInt ∧ r.toInt ≤ 2147483647) ∧ ((∀ b j : Nat, (tag b ≠ 22 ∨ j ≠ 2) → (tag b ≠ 26 ∨ j ≠ 13) → fld F1 b j = fld Fo b j) ∧ EF tag F1 Fo)) := by
  refine t_bodyi (y := yX11_latest) (cd := cX11_latest) (mL := 2) (rt := (some .int)) (rm := { frames := 4, cells := 0, slots := 0, locals := 86 }) (av := [.ref p0, .int p1]) (by decide) (Nat.le_of_ble_eq_true rfl) ho ?_
  intro p e s m args below meth c ls A Q hQ X hT hl
  have hx := X.1.1
  have hb := X.1.2.1
  have hl : lv_has ls 2 [(0, .ref p0), (1, .int p1)] := hl
  have rp1 := rg_all p1
  obtain ⟨F, hFo⟩ : ∃ F : Nat → va_E, F = Fo := ⟨_, rfl⟩
  rw [← hFo] at hT
  have hfr : (∀ b j : Nat, (tag b ≠ 22 ∨ j ≠ 2) → (tag b ≠ 26 ∨ j ≠ 13) → fld F b j = fld Fo b j) ∧ EF tag F Fo := by
    rw [hFo]
    exact ⟨by intros; rfl, fun _ _ _ => rfl⟩
  have K57 : ∀ (z40040 : Int32) (b40041 : Nat) (F : Nat → va_E) (H : Heap) (locs : List Loc) (ls : Array Slot), (b40041 ∈ L) → (tag b40041 = 26) → (0 ≤ p1.toInt ∧ p1.toInt ≤ 5) → TH G ttC A s tag L F H locs → ((∀ b j : Nat, (tag b ≠ 22 ∨ j ≠ 2) → (tag b ≠ 26 ∨ j ≠ 13) → fld F b j = fld Fo b j) ∧ EF tag F Fo) → lv_has ls 2 [(0, .ref p0), (1, .int p1)] → W p l e { frames := 4, cells := 0, slots := 0, locals := 86 } s m args below meth c H locs 0 0 Q (F0 m 57 ls [.int z40040, .ref b40041]) := by
    intro z40040 b40041 F H locs ls mb40041 gb40041 r9s40039 hT hfr hl
    have rz40040 := rg_all z40040
    refine t_cVi (n := 1) (C := RX11) (T := TX11) (N := 16) (As := [.int z40040]) (rest := []) X hT (kt56_X11_answer l G tag L F hT.2.2.2 b40041 z40040 mb40041 gb40041) mb40041 gb40041 rfl rfl qw_463 qw_464 qw_465 qw_2 qw_466 ⟨rfl, by decide +kernel, by decide +kernel, by decide +kernel⟩ ⟨Nat.le_of_ble_eq_true rfl, Nat.le_of_ble_eq_true rfl⟩ hl rfl rfl (Nat.le_of_ble_eq_true rfl) dX11_latest_57 ⟨Nat.le_of_ble_eq_true rfl, Nat.le_of_ble_eq_true rfl⟩ (fun z40042 F H locs hT hz40042 => ?_)
    obtain ⟨hz40042, yz40042⟩ := hz40042
    have hfr : (∀ b j : Nat, (tag b ≠ 22 ∨ j ≠ 2) → (tag b ≠ 26 ∨ j ≠ 13) → fld F b j = fld Fo b j) ∧ EF tag F Fo := ⟨fun b j n22_2 n26_13 => (yz40042.1 b j n26_13).trans (hfr.1 b j n22_2 n26_13), fun b j hb => (yz40042.2 b j hb).trans (hfr.2 b j hb)⟩
    exact t_iret hQ X hT (⟨rg_all _, hfr⟩) (Nat.le_of_ble_eq_true rfl) (Nat.le_of_ble_eq_true rfl) dX11_latest_60
  refine lv_aload_n hx hb dX11_latest_0 rfl (lv_at hl 0 rfl) ?_
  refine lv_iload_n hx hb dX11_latest_1 rfl (lv_at hl 1 rfl) ?_
  refine t_cVi (n := 1) (C := RX11) (T := TX11) (N := 16) (As := [.int p1]) (rest := []) X hT (kt92_X11_isWall l G tag L F hT.2.2.2 p0 p1 m0 g0) m0 g0 rfl rfl qw_1379 qw_1380 qw_1381 qw_2 qw_1382 ⟨rfl, by decide +kernel, by decide +kernel, by decide +kernel⟩ ⟨Nat.le_of_ble_eq_true rfl, Nat.le_of_ble_eq_true rfl⟩ hl rfl rfl (Nat.le_of_ble_eq_true rfl) dX11_latest_2 ⟨Nat.le_of_ble_eq_true rfl, Nat.le_of_ble_eq_true rfl⟩ (fun z40043 F9 H locs hT hz40043 => ?_)
  obtain ⟨fz40043, hz40043⟩ := hz40043
  rw [fz40043] at hT
  obtain ⟨hz40043, iz40043⟩ := hz40043
  refine lv_if_ne (tgt := 14) hx hb dX11_latest_5 (by decide) (fun c40044 => ?_) (fun c40044 => ?_)
  · have w40045 := cv_ne (rfl : z40043.toInt = z40043.toInt) (by decide : (0 : Int32).toInt = 0) c40044
    have w40046 := (fun h => (iz40043 h)) (by omega)
    refine lv_aload_n hx hb dX11_latest_14 rfl (lv_at hl 0 rfl) ?_
    refine t_get (C := RX11) (T := TX11) (N := 16) X hT m0 g0 rfl rfl 11 (by decide) qw_41 inlX11 rfl dX11_latest_15 (fun v40047 hv40047 ov40047 => ?_)
    obtain ⟨b40048, rfl, mb40048, gb40048⟩ := okV_r ov40047
    have gb40048 : tag b40048 = 22 := tg_of gb40048
    refine lv_aload_n hx hb dX11_latest_18 rfl (lv_at hl 0 rfl) ?_
    refine t_get (C := RX11) (T := TX11) (N := 16) X hT m0 g0 rfl rfl 3 (by decide) qw_18 inlX11 rfl dX11_latest_19 (fun v40049 hv40049 ov40049 => ?_)
    obtain ⟨b40050, rfl, mb40050, gb40050⟩ := okV_r ov40049
    have gb40050 : tag b40050 = 18 := tg_of gb40050
    refine lv_aload_n hx hb dX11_latest_22 rfl (lv_at hl 0 rfl) ?_
    refine t_get (C := RX11) (T := TX11) (N := 16) X hT m0 g0 rfl rfl 5 (by decide) qw_23 inlX11 rfl dX11_latest_23 (fun v40051 hv40051 ov40051 => ?_)
    obtain ⟨b40052, rfl, mb40052, gb40052⟩ := okV_r ov40051
    have gb40052 : tag b40052 = 19 := tg_of gb40052
    refine t_get (C := RX7) (T := TX7) (N := 7) X hT mb40052 gb40052 rfl rfl 0 (by decide) qw_1225 inlX7 rfl dX11_latest_26 (fun v40053 hv40053 ov40053 => ?_)
    obtain ⟨z40054, rfl, rz40054⟩ := okV_i ov40053
    refine t_cVv (n := 2) (C := RX9) (T := TX9) (N := 6) (As := [.ref b40050, .int z40054]) (rest := []) X hT (kt107_X9_lookAtAll l G tag L F hT.2.2.2 b40048 b40050 z40054 mb40048 gb40048 mb40050 gb40050) mb40048 gb40048 rfl rfl qw_1333 qw_1334 qw_1335 qw_40 qw_1336 ⟨rfl, by decide +kernel, by decide +kernel, by decide +kernel⟩ ⟨Nat.le_of_ble_eq_true rfl, Nat.le_of_ble_eq_true rfl⟩ hl rfl rfl (Nat.le_of_ble_eq_true rfl) dX11_latest_29 ⟨Nat.le_of_ble_eq_true rfl, Nat.le_of_ble_eq_true rfl⟩ (fun F H locs hT hz40055 => ?_)
    have yz40055 := hz40055
    have hv40047 := (yz40055.1 _ 11 (Or.inr (by decide))).trans hv40047
    have hv40049 := (yz40055.1 _ 3 (Or.inr (by decide))).trans hv40049
    have hv40051 := (yz40055.1 _ 5 (Or.inr (by decide))).trans hv40051
    have hv40053 := (yz40055.1 _ 0 (Or.inr (by decide))).trans hv40053
    have hfr : (∀ b j : Nat, (tag b ≠ 22 ∨ j ≠ 2) → (tag b ≠ 26 ∨ j ≠ 13) → fld F b j = fld Fo b j) ∧ EF tag F Fo := ⟨fun b j n22_2 n26_13 => (yz40055.1 b j n22_2).trans (hfr.1 b j n22_2 n26_13), fun b j hb => (yz40055.2 b j hb).trans (hfr.2 b j hb)⟩
    refine lv_aload_n hx hb dX11_latest_32 rfl (lv_at hl 0 rfl) ?_
    refine lv_aload_n hx hb dX11_latest_33 rfl (lv_at hl 0 rfl) ?_
    refine t_get (C := RX11) (T := TX11) (N := 16) X hT m0 g0 rfl rfl 11 (by decide) qw_41 inlX11 rfl dX11_latest_34 (fun v40056 hv40056 ov40056 => ?_)
    obtain rfl : v40056 = .ref b40048 := hv40056.symm.trans hv40047
    refine t_get (C := RX9) (T := TX9) (N := 6) X hT mb40048 gb40048 rfl rfl 2 (by decide) qw_1332 inlX9 rfl dX11_latest_37 (fun v40057 hv40057 ov40057 => ?_)
    obtain ⟨z40058, rfl, rz40058⟩ := okV_i ov40057
    refine lv_if_ne (tgt := 48) hx hb dX11_latest_40 (by decide) (fun c40059 => ?_) (fun c40059 => ?_)
    · have w40060 := cv_ne (rfl : z40058.toInt = z40058.toInt) (by decide : (0 : Int32).toInt = 0) c40059
      refine lv_aload_n hx hb dX11_latest_48 rfl (lv_at hl 0 rfl) ?_
      refine t_get (C := RX11) (T := TX11) (N := 16) X hT m0 g0 rfl rfl 11 (by decide) qw_41 inlX11 rfl dX11_latest_49 (fun v40061 hv40061 ov40061 => ?_)
      obtain rfl : v40061 = .ref b40048 := hv40061.symm.trans hv40047
      refine t_get (C := RX9) (T := TX9) (N := 6) X hT mb40048 gb40048 rfl rfl 4 (by decide) qw_1409 inlX9 rfl dX11_latest_52 (fun v40062 hv40062 ov40062 => ?_)
      obtain ⟨b40063, rfl, mb40063, gb40063⟩ := okV_r ov40062
      have gb40063 : tag b40063 = 7 := tg_of gb40063
      refine lv_iload_n hx hb dX11_latest_55 rfl (lv_at hl 1 rfl) ?_
      refine t_ild X hT mb40063 gb40063 rfl (by omega) dX11_latest_56 (fun z40064 vz40064 rz40064 => ?_)
      have rz40064 : (-2147483648) ≤ z40064.toInt ∧ z40064.toInt ≤ 2147483647 := rz40064
      exact K57 z40064 p0 _ _ _ _ m0 g0 (by omega) hT hfr  (lv_sub hl [0, 1] rfl)
    · have w40065 := cv_eq (rfl : z40058.toInt = z40058.toInt) (by decide : (0 : Int32).toInt = 0) c40059
      refine lv_bipush (v := (-2)) hx hb dX11_latest_43 (by decide) ?_
      refine lv_goto (tgt := 57) hx hb dX11_latest_45 (by decide) ?_
      exact K57 (-2) p0 _ _ _ _ m0 g0 (by omega) hT hfr  (lv_sub hl [0, 1] rfl)
  · have w40066 := cv_eq (rfl : z40043.toInt = z40043.toInt) (by decide : (0 : Int32).toInt = 0) c40044
    refine lv_aload_n hx hb dX11_latest_8 rfl (lv_at hl 0 rfl) ?_
    refine lv_iconst (v := 1) hx hb dX11_latest_9 (by decide) ?_
    refine t_cVi (n := 1) (C := RX11) (T := TX11) (N := 16) (As := [.int 1]) (rest := []) X hT (kt63_X11_refuse l G tag L F hT.2.2.2 p0 1 m0 g0) m0 g0 rfl rfl qw_152 qw_153 qw_154 qw_2 qw_155 ⟨rfl, by decide +kernel, by decide +kernel, by decide +kernel⟩ ⟨Nat.le_of_ble_eq_true rfl, Nat.le_of_ble_eq_true rfl⟩ hl rfl rfl (Nat.le_of_ble_eq_true rfl) dX11_latest_10 ⟨Nat.le_of_ble_eq_true rfl, Nat.le_of_ble_eq_true rfl⟩ (fun z40067 F H locs hT hz40067 => ?_)
    obtain ⟨hz40067, yz40067⟩ := hz40067
    have hfr : (∀ b j : Nat, (tag b ≠ 22 ∨ j ≠ 2) → (tag b ≠ 26 ∨ j ≠ 13) → fld F b j = fld Fo b j) ∧ EF tag F Fo := ⟨fun b j n22_2 n26_13 => (yz40067.1 b j n26_13).trans (hfr.1 b j n22_2 n26_13), fun b j hb => (yz40067.2 b j hb).trans (hfr.2 b j hb)⟩
    exact t_iret hQ X hT (⟨rg_all _, hfr⟩) (Nat.le_of_ble_eq_true rfl) (Nat.le_of_ble_eq_true rfl) dX11_latest_13
set_option maxHeartbeats 4000000 in
set_option maxRecDepth 100000 in
theorem kt109_X11_light (l : Launch) (G : KG) (tag : Nat → Nat) (L : List Nat) (Fo : Nat → va_E) (ho : okT G ttC tag L Fo) (p0 : Nat) (p1 : Int32) (p2 : Int32) (m0 : p0 ∈ L) (g0 : tag p0 = 26) : TMi l yX11_light cX11_light 3 (some .int) { frames := 2, cells := 0, slots := 0, locals := 43 } G ttC tag L Fo [.ref p0, .int p1, .int p2] (fun r F1 => ((-2147483648) ≤ r.toInt ∧ r.toInt ≤ 2147483647) ∧ ((∀ b j : Nat, (tag b ≠ 26 ∨ j ≠ 13) → fld F1 b j = fld Fo b j) ∧ EF tag F1 Fo)) := by
  refine t_bodyi (y := yX11_light) (cd := cX11_light) (mL := 3) (rt := (some .int)) (rm := { frames := 2, cells := 0, slots := 0, locals := 43 }) (av := [.ref p0, .int p1, .int p2]) (by decide) (Nat.le_of_ble_eq_true rfl) ho ?_
  intro p e s m args below meth c ls A Q hQ X hT hl
  have hx := X.1.1
  have hb := X.1.2.1
  have hl : lv_has ls 3 [(0, .ref p0), (1, .int p1), (2, .int p2)] := hl
  have rp1 := rg_all p1
  have rp2 := rg_all p2
  obtain ⟨F, hFo⟩ : ∃ F : Nat → va_E, F = Fo := ⟨_, rfl⟩
  rw [← hFo] at hT
  have hfr : (∀ b j : Nat, (tag b ≠ 26 ∨ j ≠ 13) → fld F b j = fld Fo b j) ∧ EF tag F Fo := by
    rw [hFo]
    exact ⟨by intros; rfl, fun _ _ _ => rfl⟩
  refine lv_aload_n hx hb dX11_light_0 rfl (lv_at hl 0 rfl) ?_
  refine lv_iload_n hx hb dX11_light_1 rfl (lv_at hl 1 rfl) ?_
  refine lv_iload_n hx hb dX11_light_2 rfl (lv_at hl 2 rfl) ?_
  refine t_cVi (n := 2) (C := RX11) (T := TX11) (N := 16) (As := [.int p1, .int p2]) (rest := []) X hT (kt62_X11_isRoom l G tag L F hT.2.2.2 p0 p1 p2 m0 g0) m0 g0 rfl rfl qw_827 qw_828 qw_829 qw_2 qw_830 ⟨rfl, by decide +kernel, by decide +kernel, by decide +kernel⟩ ⟨Nat.le_of_ble_eq_true rfl, Nat.le_of_ble_eq_true rfl⟩ hl rfl rfl (Nat.le_of_ble_eq_true rfl) dX11_light_3 ⟨Nat.le_of_ble_eq_true rfl, Nat.le_of_ble_eq_true rfl⟩ (fun z40304 F9 H locs hT hz40304 => ?_)
  obtain ⟨fz40304, hz40304⟩ := hz40304
  rw [fz40304] at hT
  obtain ⟨hz40304, iz40304⟩ := hz40304
  refine lv_if_ne (tgt := 15) hx hb dX11_light_6 (by decide) (fun c40305 => ?_) (fun c40305 => ?_)
  · have w40306 := cv_ne (rfl : z40304.toInt = z40304.toInt) (by decide : (0 : Int32).toInt = 0) c40305
    have w40307 := (fun h => (iz40304 h).1) (by omega)
    have w40308 := (fun h => (iz40304 h).2) (by omega)
    refine lv_aload_n hx hb dX11_light_15 rfl (lv_at hl 0 rfl) ?_
    refine lv_iconst (v := 0) hx hb dX11_light_16 (by decide) ?_
    refine lv_bipush (v := 9) hx hb dX11_light_17 (by decide) ?_
    refine lv_iconst (v := 3) hx hb dX11_light_19 (by decide) ?_
    refine lv_aload_n hx hb dX11_light_20 rfl (lv_at hl 0 rfl) ?_
    refine t_get (C := RX11) (T := TX11) (N := 16) X hT m0 g0 rfl rfl 5 (by decide) qw_23 inlX11 rfl dX11_light_21 (fun v40309 hv40309 ov40309 => ?_)
    obtain ⟨b40310, rfl, mb40310, gb40310⟩ := okV_r ov40309
    have gb40310 : tag b40310 = 19 := tg_of gb40310
    refine t_get (C := RX7) (T := TX7) (N := 7) X hT mb40310 gb40310 rfl rfl 2 (by decide) qw_766 inlX7 rfl dX11_light_24 (fun v40311 hv40311 ov40311 => ?_)
    obtain ⟨b40312, rfl, mb40312, gb40312⟩ := okV_r ov40311
    have gb40312 : tag b40312 = 8 := tg_of gb40312
    refine lv_iload_n hx hb dX11_light_27 rfl (lv_at hl 1 rfl) ?_
    refine t_ild X hT mb40312 gb40312 rfl (by omega) dX11_light_28 (fun z40313 vz40313 rz40313 => ?_)
    have rz40313 : 0 ≤ z40313.toInt ∧ z40313.toInt ≤ 6 := rz40313
    refine lv_iload_n hx hb dX11_light_29 rfl (lv_at hl 2 rfl) ?_
    refine lv_isub hx hb dX11_light_30 ?_
    refine lv_topi (fun z40314 ez40314 => ?_)
    have hz40314 : z40314.toInt = z40313.toInt - p2.toInt := ar_sub ez40314 (rfl : z40313.toInt = z40313.toInt) (rfl : p2.toInt = p2.toInt) (by omega) (by omega)
    have rz40314 : (-6) ≤ z40314.toInt ∧ z40314.toInt ≤ 6 := by omega
    refine lv_imul hx hb dX11_light_31 ?_
    refine lv_topi (fun z40315 ez40315 => ?_)
    have hz40315 : z40315.toInt = 3 * z40314.toInt := ar_mul ez40315 (by decide : (3 : Int32).toInt = 3) (rfl : z40314.toInt = z40314.toInt) (by omega) (by omega)
    have rz40315 : (-18) ≤ z40315.toInt ∧ z40315.toInt ≤ 18 := by omega
    refine lv_isub hx hb dX11_light_32 ?_
    refine lv_topi (fun z40316 ez40316 => ?_)
    have hz40316 : z40316.toInt = 9 - z40315.toInt := ar_sub ez40316 (by decide : (9 : Int32).toInt = 9) (rfl : z40315.toInt = z40315.toInt) (by omega) (by omega)
    have rz40316 : (-9) ≤ z40316.toInt ∧ z40316.toInt ≤ 27 := by omega
    refine t_mmax X hl qw_848 qw_849 qw_850 qw_851 (Nat.le_of_ble_eq_true rfl) (Nat.le_of_ble_eq_true rfl) (Nat.le_of_ble_eq_true rfl) (Nat.le_of_ble_eq_true rfl) dX11_light_33 (fun z40317 ez40317 => ?_)
    have hz40317 := mmax_e ez40317 (by decide : (0 : Int32).toInt = 0) (rfl : z40316.toInt = z40316.toInt)
    refine t_cVi (n := 1) (C := RX11) (T := TX11) (N := 16) (As := [.int z40317]) (rest := []) X hT (kt56_X11_answer l G tag L F hT.2.2.2 p0 z40317 m0 g0) m0 g0 rfl rfl qw_463 qw_464 qw_465 qw_2 qw_466 ⟨rfl, by decide +kernel, by decide +kernel, by decide +kernel⟩ ⟨Nat.le_of_ble_eq_true rfl, Nat.le_of_ble_eq_true rfl⟩ hl rfl rfl (Nat.le_of_ble_eq_true rfl) dX11_light_36 ⟨Nat.le_of_ble_eq_true rfl, Nat.le_of_ble_eq_true rfl⟩ (fun z40318 F H locs hT hz40318 => ?_)
    obtain ⟨hz40318, yz40318⟩ := hz40318
    have hv40309 := (yz40318.1 _ 5 (Or.inr (by decide))).trans hv40309
    have hv40311 := (yz40318.1 _ 2 (Or.inr (by decide))).trans hv40311
    have hfr : (∀ b j : Nat, (tag b ≠ 26 ∨ j ≠ 13) → fld F b j = fld Fo b j) ∧ EF tag F Fo := ⟨fun b j n26_13 => (yz40318.1 b j n26_13).trans (hfr.1 b j n26_13), fun b j hb => (yz40318.2 b j hb).trans (hfr.2 b j hb)⟩
    exact t_iret hQ X hT (⟨rg_all _, hfr⟩) (Nat.le_of_ble_eq_true rfl) (Nat.le_of_ble_eq_true rfl) dX11_light_39
  · have w40319 := cv_eq (rfl : z40304.toInt = z40304.toInt) (by decide : (0 : Int32).toInt = 0) c40305
    refine lv_aload_n hx hb dX11_light_9 rfl (lv_at hl 0 rfl) ?_
    refine lv_iconst (v := 1) hx hb dX11_light_10 (by decide) ?_
    refine t_cVi (n := 1) (C := RX11) (T := TX11) (N := 16) (As := [.int 1]) (rest := []) X hT (kt63_X11_refuse l G tag L F hT.2.2.2 p0 1 m0 g0) m0 g0 rfl rfl qw_152 qw_153 qw_154 qw_2 qw_155 ⟨rfl, by decide +kernel, by decide +kernel, by decide +kernel⟩ ⟨Nat.le_of_ble_eq_true rfl, Nat.le_of_ble_eq_true rfl⟩ hl rfl rfl (Nat.le_of_ble_eq_true rfl) dX11_light_11 ⟨Nat.le_of_ble_eq_true rfl, Nat.le_of_ble_eq_true rfl⟩ (fun z40320 F H locs hT hz40320 => ?_)
    obtain ⟨hz40320, yz40320⟩ := hz40320
    have hfr : (∀ b j : Nat, (tag b ≠ 26 ∨ j ≠ 13) → fld F b j = fld Fo b j) ∧ EF tag F Fo := ⟨fun b j n26_13 => (yz40320.1 b j n26_13).trans (hfr.1 b j n26_13), fun b j hb => (yz40320.2 b j hb).trans (hfr.2 b j hb)⟩
    exact t_iret hQ X hT (⟨rg_all _, hfr⟩) (Nat.le_of_ble_eq_true rfl) (Nat.le_of_ble_eq_true rfl) dX11_light_14
set_option maxHeartbeats 4000000 in
set_option maxRecDepth 100000 in
theorem kt110_X11_lock (l : Launch) (G : KG) (tag : Nat → Nat) (L : List Nat) (Fo : Nat → va_E) (ho : okT G ttC tag L Fo) (p0 : Nat) (p1 : Int32) (p2 : Int32) (p3 : Int32) (m0 : p0 ∈ L) (g0 : tag p0 = 26) : TMi l yX11_lock cX11_lock 4 (some .boolean) { frames := 3, cells := 0, slots := 0, locals := 66 } G ttC tag L Fo [.ref p0, .int p1, .int p2, .int p3] (fun r F1 => (0 ≤ r.toInt ∧ r.toInt ≤ 1) ∧ ((∀ b j : Nat, (tag b ≠ 19 ∨ j ≠ 0) → (tag b ≠ 19 ∨ j ≠ 1) → (tag b ≠ 23 ∨ j ≠ 2) → (tag b ≠ 23 ∨ j ≠ 3) → (tag b ≠ 26 ∨ j ≠ 13) → fld F1 b j = fld Fo b j) ∧ EF tag F1 Fo)) := by
  refine t_bodyi (y := yX11_lock) (cd := cX11_lock) (mL := 4) (rt := (some .boolean)) (rm := { frames := 3, cells := 0, slots := 0, locals := 66 }) (av := [.ref p0, .int p1, .int p2, .int p3]) (by decide) (Nat.le_of_ble_eq_true rfl) ho ?_
  intro p e s m args below meth c ls A Q hQ X hT hl
  have hx := X.1.1
  have hb := X.1.2.1
  have hl : lv_has ls 4 [(0, .ref p0), (1, .int p1), (2, .int p2), (3, .int p3)] := hl
  have rp1 := rg_all p1
  have rp2 := rg_all p2
  have rp3 := rg_all p3
  obtain ⟨F, hFo⟩ : ∃ F : Nat → va_E, F = Fo := ⟨_, rfl⟩
  rw [← hFo] at hT
  have hfr : (∀ b j : Nat, (tag b ≠ 19 ∨ j ≠ 0) → (tag b ≠ 19 ∨ j ≠ 1) → (tag b ≠ 23 ∨ j ≠ 2) → (tag b ≠ 23 ∨ j ≠ 3) → (tag b ≠ 26 ∨ j ≠ 13) → fld F b j = fld Fo b j) ∧ EF tag F Fo := by
    rw [hFo]
    exact ⟨by intros; rfl, fun _ _ _ => rfl⟩
  have K25 : ∀  (F : Nat → va_E) (H : Heap) (locs : List Loc) (ls : Array Slot), (0 ≤ p1.toInt ∧ p1.toInt ≤ 3) → (1 ≤ p2.toInt ∧ p2.toInt ≤ 6) → TH G ttC A s tag L F H locs → ((∀ b j : Nat, (tag b ≠ 19 ∨ j ≠ 0) → (tag b ≠ 19 ∨ j ≠ 1) → (tag b ≠ 23 ∨ j ≠ 2) → (tag b ≠ 23 ∨ j ≠ 3) → (tag b ≠ 26 ∨ j ≠ 13) → fld F b j = fld Fo b j) ∧ EF tag F Fo) → lv_has ls 4 [(0, .ref p0), (1, .int p1), (2, .int p2), (3, .int p3)] → W p l e { frames := 3, cells := 0, slots := 0, locals := 66 } s m args below meth c H locs 0 0 Q (F0 m 25 ls []) := by
    intro F H locs ls r9s40640 r9s40641 hT hfr hl
    refine lv_aload_n hx hb dX11_lock_25 rfl (lv_at hl 0 rfl) ?_
    refine lv_iconst (v := 2) hx hb dX11_lock_26 (by decide) ?_
    refine t_cVi (n := 1) (C := RX11) (T := TX11) (N := 16) (As := [.int 2]) (rest := []) X hT (kt58_X11_no l G tag L F hT.2.2.2 p0 2 m0 g0) m0 g0 rfl rfl qw_1454 qw_1455 qw_1456 qw_2 qw_1457 ⟨rfl, by decide +kernel, by decide +kernel, by decide +kernel⟩ ⟨Nat.le_of_ble_eq_true rfl, Nat.le_of_ble_eq_true rfl⟩ hl rfl rfl (Nat.le_of_ble_eq_true rfl) dX11_lock_27 ⟨Nat.le_of_ble_eq_true rfl, Nat.le_of_ble_eq_true rfl⟩ (fun z40642 F H locs hT hz40642 => ?_)
    obtain ⟨hz40642, yz40642⟩ := hz40642
    have hfr : (∀ b j : Nat, (tag b ≠ 19 ∨ j ≠ 0) → (tag b ≠ 19 ∨ j ≠ 1) → (tag b ≠ 23 ∨ j ≠ 2) → (tag b ≠ 23 ∨ j ≠ 3) → (tag b ≠ 26 ∨ j ≠ 13) → fld F b j = fld Fo b j) ∧ EF tag F Fo := ⟨fun b j n19_0 n19_1 n23_2 n23_3 n26_13 => (yz40642.1 b j n26_13).trans (hfr.1 b j n19_0 n19_1 n23_2 n23_3 n26_13), fun b j hb => (yz40642.2 b j hb).trans (hfr.2 b j hb)⟩
    exact t_zret hQ X hT (nar_z (by omega)) (⟨(by omega), hfr⟩) (Nat.le_of_ble_eq_true rfl) (Nat.le_of_ble_eq_true rfl) dX11_lock_30
  refine lv_aload_n hx hb dX11_lock_0 rfl (lv_at hl 0 rfl) ?_
  refine lv_iload_n hx hb dX11_lock_1 rfl (lv_at hl 1 rfl) ?_
  refine lv_iload_n hx hb dX11_lock_2 rfl (lv_at hl 2 rfl) ?_
  refine t_cVi (n := 2) (C := RX11) (T := TX11) (N := 16) (As := [.int p1, .int p2]) (rest := []) X hT (kt70_X11_isSkin l G tag L F hT.2.2.2 p0 p1 p2 m0 g0) m0 g0 rfl rfl qw_823 qw_824 qw_825 qw_2 qw_826 ⟨rfl, by decide +kernel, by decide +kernel, by decide +kernel⟩ ⟨Nat.le_of_ble_eq_true rfl, Nat.le_of_ble_eq_true rfl⟩ hl rfl rfl (Nat.le_of_ble_eq_true rfl) dX11_lock_3 ⟨Nat.le_of_ble_eq_true rfl, Nat.le_of_ble_eq_true rfl⟩ (fun z40643 F9 H locs hT hz40643 => ?_)
  obtain ⟨fz40643, hz40643⟩ := hz40643
  rw [fz40643] at hT
  obtain ⟨hz40643, iz40643⟩ := hz40643
  refine lv_if_ne (tgt := 15) hx hb dX11_lock_6 (by decide) (fun c40644 => ?_) (fun c40644 => ?_)
  · have w40645 := cv_ne (rfl : z40643.toInt = z40643.toInt) (by decide : (0 : Int32).toInt = 0) c40644
    have w40646 := (fun h => (iz40643 h).1) (by omega)
    have w40647 := (fun h => (iz40643 h).2) (by omega)
    refine lv_iload_n hx hb dX11_lock_15 rfl (lv_at hl 3 rfl) ?_
    refine lv_if_lt (tgt := 25) hx hb dX11_lock_16 (by decide) (fun c40648 => ?_) (fun c40648 => ?_)
    · have w40649 := cv_lt (rfl : p3.toInt = p3.toInt) (by decide : (0 : Int32).toInt = 0) c40648
      exact K25  _ _ _ _ (by omega) (by omega) hT hfr  (lv_sub hl [0, 1, 2, 3] rfl)
    · have w40650 := cv_nlt (rfl : p3.toInt = p3.toInt) (by decide : (0 : Int32).toInt = 0) c40648
      refine lv_iload_n hx hb dX11_lock_19 rfl (lv_at hl 3 rfl) ?_
      refine lv_bipush (v := 99) hx hb dX11_lock_20 (by decide) ?_
      refine lv_icmp_le (tgt := 31) hx hb dX11_lock_22 (by decide) (fun c40651 => ?_) (fun c40651 => ?_)
      · have w40652 := cv_le (rfl : p3.toInt = p3.toInt) (by decide : (99 : Int32).toInt = 99) c40651
        refine lv_aload_n hx hb dX11_lock_31 rfl (lv_at hl 0 rfl) ?_
        refine t_get (C := RX11) (T := TX11) (N := 16) X hT m0 g0 rfl rfl 5 (by decide) qw_23 inlX11 rfl dX11_lock_32 (fun v40653 hv40653 ov40653 => ?_)
        obtain ⟨b40654, rfl, mb40654, gb40654⟩ := okV_r ov40653
        have gb40654 : tag b40654 = 19 := tg_of gb40654
        refine lv_iload_n hx hb dX11_lock_35 rfl (lv_at hl 1 rfl) ?_
        refine lv_iload_n hx hb dX11_lock_36 rfl (lv_at hl 2 rfl) ?_
        refine lv_iconst (v := 3) hx hb dX11_lock_37 (by decide) ?_
        refine t_cVi (n := 3) (C := RX7) (T := TX7) (N := 7) (As := [.int p1, .int p2, .int 3]) (rest := []) X hT (kt15_X7_partOf l G tag L F hT.2.2.2 b40654 p1 p2 3 mb40654 gb40654) mb40654 gb40654 rfl rfl qw_831 qw_778 qw_779 qw_22 qw_780 ⟨rfl, by decide +kernel, by decide +kernel, by decide +kernel⟩ ⟨Nat.le_of_ble_eq_true rfl, Nat.le_of_ble_eq_true rfl⟩ hl rfl rfl (Nat.le_of_ble_eq_true rfl) dX11_lock_38 ⟨Nat.le_of_ble_eq_true rfl, Nat.le_of_ble_eq_true rfl⟩ (fun z40655 F9 H locs hT hz40655 => ?_)
        obtain ⟨fz40655, hz40655⟩ := hz40655
        rw [fz40655] at hT
        refine lv_iload_n hx hb dX11_lock_41 rfl (lv_at hl 3 rfl) ?_
        refine lv_icmp_ne (tgt := 51) hx hb dX11_lock_42 (by decide) (fun c40656 => ?_) (fun c40656 => ?_)
        · have w40657 := cv_ne (rfl : z40655.toInt = z40655.toInt) (rfl : p3.toInt = p3.toInt) c40656
          refine lv_aload_n hx hb dX11_lock_51 rfl (lv_at hl 0 rfl) ?_
          refine t_get (C := RX11) (T := TX11) (N := 16) X hT m0 g0 rfl rfl 12 (by decide) qw_45 inlX11 rfl dX11_lock_52 (fun v40658 hv40658 ov40658 => ?_)
          obtain ⟨b40659, rfl, mb40659, gb40659⟩ := okV_r ov40658
          have gb40659 : tag b40659 = 23 := tg_of gb40659
          refine lv_aload_n hx hb dX11_lock_55 rfl (lv_at hl 0 rfl) ?_
          refine t_get (C := RX11) (T := TX11) (N := 16) X hT m0 g0 rfl rfl 5 (by decide) qw_23 inlX11 rfl dX11_lock_56 (fun v40660 hv40660 ov40660 => ?_)
          obtain rfl : v40660 = .ref b40654 := hv40660.symm.trans hv40653
          refine t_cVv (n := 1) (C := RX2) (T := TX2) (N := 5) (As := [.ref b40654]) (rest := []) X hT (kt66_X2_keep l G tag L F hT.2.2.2 b40659 b40654 mb40659 gb40659 mb40654 gb40654) mb40659 gb40659 rfl rfl qw_1427 qw_1428 qw_1429 qw_44 qw_1430 ⟨rfl, by decide +kernel, by decide +kernel, by decide +kernel⟩ ⟨Nat.le_of_ble_eq_true rfl, Nat.le_of_ble_eq_true rfl⟩ hl rfl rfl (Nat.le_of_ble_eq_true rfl) dX11_lock_59 ⟨Nat.le_of_ble_eq_true rfl, Nat.le_of_ble_eq_true rfl⟩ (fun F H locs hT hz40661 => ?_)
          have yz40661 := hz40661
          have hv40653 := (yz40661.1 _ 5 (Or.inr (by decide)) (Or.inr (by decide)) (Or.inr (by decide)) (Or.inr (by decide))).trans hv40653
          have hv40658 := (yz40661.1 _ 12 (Or.inr (by decide)) (Or.inr (by decide)) (Or.inr (by decide)) (Or.inr (by decide))).trans hv40658
          have hfr : (∀ b j : Nat, (tag b ≠ 19 ∨ j ≠ 0) → (tag b ≠ 19 ∨ j ≠ 1) → (tag b ≠ 23 ∨ j ≠ 2) → (tag b ≠ 23 ∨ j ≠ 3) → (tag b ≠ 26 ∨ j ≠ 13) → fld F b j = fld Fo b j) ∧ EF tag F Fo := ⟨fun b j n19_0 n19_1 n23_2 n23_3 n26_13 => (yz40661.1 b j n19_0 n19_1 n23_2 n23_3).trans (hfr.1 b j n19_0 n19_1 n23_2 n23_3 n26_13), fun b j hb => (yz40661.2 b j hb).trans (hfr.2 b j hb)⟩
          refine lv_aload_n hx hb dX11_lock_62 rfl (lv_at hl 0 rfl) ?_
          refine t_get (C := RX11) (T := TX11) (N := 16) X hT m0 g0 rfl rfl 5 (by decide) qw_23 inlX11 rfl dX11_lock_63 (fun v40662 hv40662 ov40662 => ?_)
          obtain rfl : v40662 = .ref b40654 := hv40662.symm.trans hv40653
          refine lv_iload_n hx hb dX11_lock_66 rfl (lv_at hl 1 rfl) ?_
          refine lv_iload_n hx hb dX11_lock_67 rfl (lv_at hl 2 rfl) ?_
          refine lv_iconst (v := 3) hx hb dX11_lock_68 (by decide) ?_
          refine lv_iload_n hx hb dX11_lock_69 rfl (lv_at hl 3 rfl) ?_
          refine t_cVv (n := 4) (C := RX7) (T := TX7) (N := 7) (As := [.int p1, .int p2, .int 3, .int p3]) (rest := []) X hT (kt16_X7_setPart l G tag L F hT.2.2.2 b40654 p1 p2 3 p3 mb40654 gb40654) mb40654 gb40654 rfl rfl qw_1459 qw_423 qw_424 qw_22 qw_425 ⟨rfl, by decide +kernel, by decide +kernel, by decide +kernel⟩ ⟨Nat.le_of_ble_eq_true rfl, Nat.le_of_ble_eq_true rfl⟩ hl rfl rfl (Nat.le_of_ble_eq_true rfl) dX11_lock_70 ⟨Nat.le_of_ble_eq_true rfl, Nat.le_of_ble_eq_true rfl⟩ (fun F H locs hT hz40663 => ?_)
          have yz40663 := hz40663
          have hv40653 := (yz40663.1 _ 5 ).trans hv40653
          have hv40658 := (yz40663.1 _ 12 ).trans hv40658
          have hfr : (∀ b j : Nat, (tag b ≠ 19 ∨ j ≠ 0) → (tag b ≠ 19 ∨ j ≠ 1) → (tag b ≠ 23 ∨ j ≠ 2) → (tag b ≠ 23 ∨ j ≠ 3) → (tag b ≠ 26 ∨ j ≠ 13) → fld F b j = fld Fo b j) ∧ EF tag F Fo := ⟨fun b j n19_0 n19_1 n23_2 n23_3 n26_13 => (yz40663.1 b j ).trans (hfr.1 b j n19_0 n19_1 n23_2 n23_3 n26_13), fun b j hb => (yz40663.2 b j hb).trans (hfr.2 b j hb)⟩
          refine lv_aload_n hx hb dX11_lock_73 rfl (lv_at hl 0 rfl) ?_
          refine t_cVi (n := 0) (C := RX11) (T := TX11) (N := 16) (As := []) (rest := []) X hT (kt59_X11_yes l G tag L F hT.2.2.2 p0 m0 g0) m0 g0 rfl rfl qw_1460 qw_1461 qw_1462 qw_2 qw_1463 ⟨rfl, by decide +kernel, by decide +kernel, by decide +kernel⟩ ⟨Nat.le_of_ble_eq_true rfl, Nat.le_of_ble_eq_true rfl⟩ hl rfl rfl (Nat.le_of_ble_eq_true rfl) dX11_lock_74 ⟨Nat.le_of_ble_eq_true rfl, Nat.le_of_ble_eq_true rfl⟩ (fun z40664 F H locs hT hz40664 => ?_)
          obtain ⟨hz40664, yz40664⟩ := hz40664
          have hv40653 := (yz40664.1 _ 5 (Or.inr (by decide))).trans hv40653
          have hv40658 := (yz40664.1 _ 12 (Or.inr (by decide))).trans hv40658
          have hfr : (∀ b j : Nat, (tag b ≠ 19 ∨ j ≠ 0) → (tag b ≠ 19 ∨ j ≠ 1) → (tag b ≠ 23 ∨ j ≠ 2) → (tag b ≠ 23 ∨ j ≠ 3) → (tag b ≠ 26 ∨ j ≠ 13) → fld F b j = fld Fo b j) ∧ EF tag F Fo := ⟨fun b j n19_0 n19_1 n23_2 n23_3 n26_13 => (yz40664.1 b j n26_13).trans (hfr.1 b j n19_0 n19_1 n23_2 n23_3 n26_13), fun b j hb => (yz40664.2 b j hb).trans (hfr.2 b j hb)⟩
          exact t_zret hQ X hT (nar_z (by omega)) (⟨(by omega), hfr⟩) (Nat.le_of_ble_eq_true rfl) (Nat.le_of_ble_eq_true rfl) dX11_lock_77
        · have w40665 := cv_eq (rfl : z40655.toInt = z40655.toInt) (rfl : p3.toInt = p3.toInt) c40656
          refine lv_aload_n hx hb dX11_lock_45 rfl (lv_at hl 0 rfl) ?_
          refine lv_iconst (v := 5) hx hb dX11_lock_46 (by decide) ?_
          refine t_cVi (n := 1) (C := RX11) (T := TX11) (N := 16) (As := [.int 5]) (rest := []) X hT (kt58_X11_no l G tag L F hT.2.2.2 p0 5 m0 g0) m0 g0 rfl rfl qw_1454 qw_1455 qw_1456 qw_2 qw_1457 ⟨rfl, by decide +kernel, by decide +kernel, by decide +kernel⟩ ⟨Nat.le_of_ble_eq_true rfl, Nat.le_of_ble_eq_true rfl⟩ hl rfl rfl (Nat.le_of_ble_eq_true rfl) dX11_lock_47 ⟨Nat.le_of_ble_eq_true rfl, Nat.le_of_ble_eq_true rfl⟩ (fun z40666 F H locs hT hz40666 => ?_)
          obtain ⟨hz40666, yz40666⟩ := hz40666
          have hv40653 := (yz40666.1 _ 5 (Or.inr (by decide))).trans hv40653
          have hfr : (∀ b j : Nat, (tag b ≠ 19 ∨ j ≠ 0) → (tag b ≠ 19 ∨ j ≠ 1) → (tag b ≠ 23 ∨ j ≠ 2) → (tag b ≠ 23 ∨ j ≠ 3) → (tag b ≠ 26 ∨ j ≠ 13) → fld F b j = fld Fo b j) ∧ EF tag F Fo := ⟨fun b j n19_0 n19_1 n23_2 n23_3 n26_13 => (yz40666.1 b j n26_13).trans (hfr.1 b j n19_0 n19_1 n23_2 n23_3 n26_13), fun b j hb => (yz40666.2 b j hb).trans (hfr.2 b j hb)⟩
          exact t_zret hQ X hT (nar_z (by omega)) (⟨(by omega), hfr⟩) (Nat.le_of_ble_eq_true rfl) (Nat.le_of_ble_eq_true rfl) dX11_lock_50
      · have w40667 := cv_nle (rfl : p3.toInt = p3.toInt) (by decide : (99 : Int32).toInt = 99) c40651
        exact K25  _ _ _ _ (by omega) (by omega) hT hfr  (lv_sub hl [0, 1, 2, 3] rfl)
  · have w40668 := cv_eq (rfl : z40643.toInt = z40643.toInt) (by decide : (0 : Int32).toInt = 0) c40644
    refine lv_aload_n hx hb dX11_lock_9 rfl (lv_at hl 0 rfl) ?_
    refine lv_iconst (v := 1) hx hb dX11_lock_10 (by decide) ?_
    refine t_cVi (n := 1) (C := RX11) (T := TX11) (N := 16) (As := [.int 1]) (rest := []) X hT (kt58_X11_no l G tag L F hT.2.2.2 p0 1 m0 g0) m0 g0 rfl rfl qw_1454 qw_1455 qw_1456 qw_2 qw_1457 ⟨rfl, by decide +kernel, by decide +kernel, by decide +kernel⟩ ⟨Nat.le_of_ble_eq_true rfl, Nat.le_of_ble_eq_true rfl⟩ hl rfl rfl (Nat.le_of_ble_eq_true rfl) dX11_lock_11 ⟨Nat.le_of_ble_eq_true rfl, Nat.le_of_ble_eq_true rfl⟩ (fun z40669 F H locs hT hz40669 => ?_)
    obtain ⟨hz40669, yz40669⟩ := hz40669
    have hfr : (∀ b j : Nat, (tag b ≠ 19 ∨ j ≠ 0) → (tag b ≠ 19 ∨ j ≠ 1) → (tag b ≠ 23 ∨ j ≠ 2) → (tag b ≠ 23 ∨ j ≠ 3) → (tag b ≠ 26 ∨ j ≠ 13) → fld F b j = fld Fo b j) ∧ EF tag F Fo := ⟨fun b j n19_0 n19_1 n23_2 n23_3 n26_13 => (yz40669.1 b j n26_13).trans (hfr.1 b j n19_0 n19_1 n23_2 n23_3 n26_13), fun b j hb => (yz40669.2 b j hb).trans (hfr.2 b j hb)⟩
    exact t_zret hQ X hT (nar_z (by omega)) (⟨(by omega), hfr⟩) (Nat.le_of_ble_eq_true rfl) (Nat.le_of_ble_eq_true rfl) dX11_lock_14
set_option maxHeartbeats 4000000 in
set_option maxRecDepth 100000 in
theorem kt111_X2_addMark (l : Launch) (G : KG) (tag : Nat → Nat) (L : List Nat) (Fo : Nat → va_E) (ho : okT G ttC tag L Fo) (p0 : Nat) (p1 : Nat) (m0 : p0 ∈ L) (g0 : tag p0 = 23) (m1 : p1 ∈ L) (g1 : tag p1 = 19) : TMi l yX2_addMark cX2_addMark 2 (some .int) { frames := 2, cells := 0, slots := 0, locals := 45 } G ttC tag L Fo [.ref p0, .ref p1] (fun r F1 => ((-1) ≤ r.toInt ∧ r.toInt ≤ 2) ∧ ((∀ b j : Nat, (tag b ≠ 19 ∨ j ≠ 0) → (tag b ≠ 19 ∨ j ≠ 1) → (tag b ≠ 23 ∨ j ≠ 4) → fld F1 b j = fld Fo b j) ∧ EF tag F1 Fo)) := by
  refine t_bodyi (y := yX2_addMark) (cd := cX2_addMark) (mL := 2) (rt := (some .int)) (rm := { frames := 2, cells := 0, slots := 0, locals := 45 }) (av := [.ref p0, .ref p1]) (by decide) (Nat.le_of_ble_eq_true rfl) ho ?_
  intro p e s m args below meth c ls A Q hQ X hT hl
  have hx := X.1.1
  have hb := X.1.2.1
  have hl : lv_has ls 2 [(0, .ref p0), (1, .ref p1)] := hl
  obtain ⟨F, hFo⟩ : ∃ F : Nat → va_E, F = Fo := ⟨_, rfl⟩
  rw [← hFo] at hT
  have hfr : (∀ b j : Nat, (tag b ≠ 19 ∨ j ≠ 0) → (tag b ≠ 19 ∨ j ≠ 1) → (tag b ≠ 23 ∨ j ≠ 4) → fld F b j = fld Fo b j) ∧ EF tag F Fo := by
    rw [hFo]
    exact ⟨by intros; rfl, fun _ _ _ => rfl⟩
  refine lv_aload_n hx hb dX2_addMark_0 rfl (lv_at hl 0 rfl) ?_
  refine t_get (C := RX2) (T := TX2) (N := 5) X hT m0 g0 rfl rfl 4 (by decide) qw_462 inlX2 rfl dX2_addMark_1 (fun v40843 hv40843 ov40843 => ?_)
  obtain ⟨z40844, rfl, rz40844⟩ := okV_i ov40843
  refine lv_iconst (v := 3) hx hb dX2_addMark_4 (by decide) ?_
  refine lv_icmp_lt (tgt := 10) hx hb dX2_addMark_5 (by decide) (fun c40845 => ?_) (fun c40845 => ?_)
  · have w40846 := cv_lt (rfl : z40844.toInt = z40844.toInt) (by decide : (3 : Int32).toInt = 3) c40845
    refine lv_aload_n hx hb dX2_addMark_10 rfl (lv_at hl 0 rfl) ?_
    refine t_get (C := RX2) (T := TX2) (N := 5) X hT m0 g0 rfl rfl 1 (by decide) qw_104 inlX2 rfl dX2_addMark_11 (fun v40847 hv40847 ov40847 => ?_)
    obtain ⟨b40848, rfl, mb40848, gb40848⟩ := okV_r ov40847
    have gb40848 : tag b40848 = 17 := tg_of gb40848
    refine lv_aload_n hx hb dX2_addMark_14 rfl (lv_at hl 0 rfl) ?_
    refine t_get (C := RX2) (T := TX2) (N := 5) X hT m0 g0 rfl rfl 4 (by decide) qw_462 inlX2 rfl dX2_addMark_15 (fun v40849 hv40849 ov40849 => ?_)
    obtain rfl : v40849 = .int z40844 := hv40849.symm.trans hv40843
    refine t_ald X hT mb40848 gb40848 rfl (by omega) dX2_addMark_18 (fun b40850 mb40850 gb40850 => ?_)
    have gb40850 : tag b40850 = 19 := tg_of gb40850
    refine lv_aload_n hx hb dX2_addMark_19 rfl (lv_at hl 1 rfl) ?_
    refine t_cVv (n := 1) (C := RX7) (T := TX7) (N := 7) (As := [.ref p1]) (rest := []) X hT (kt49_X7_copyFrom l G tag L F hT.2.2.2 b40850 p1 mb40850 gb40850 m1 g1) mb40850 gb40850 rfl rfl qw_1432 qw_450 qw_451 qw_22 qw_452 ⟨rfl, by decide +kernel, by decide +kernel, by decide +kernel⟩ ⟨Nat.le_of_ble_eq_true rfl, Nat.le_of_ble_eq_true rfl⟩ hl rfl rfl (Nat.le_of_ble_eq_true rfl) dX2_addMark_20 ⟨Nat.le_of_ble_eq_true rfl, Nat.le_of_ble_eq_true rfl⟩ (fun F H locs hT hz40851 => ?_)
    have yz40851 := hz40851
    have hv40843 := (yz40851.1 _ 4 (Or.inr (by decide)) (Or.inr (by decide))).trans hv40843
    have hv40847 := (yz40851.1 _ 1 (Or.inr (by decide)) (Or.inl (by rw [g0]; decide))).trans hv40847
    have hfr : (∀ b j : Nat, (tag b ≠ 19 ∨ j ≠ 0) → (tag b ≠ 19 ∨ j ≠ 1) → (tag b ≠ 23 ∨ j ≠ 4) → fld F b j = fld Fo b j) ∧ EF tag F Fo := ⟨fun b j n19_0 n19_1 n23_4 => (yz40851.1 b j n19_0 n19_1).trans (hfr.1 b j n19_0 n19_1 n23_4), fun b j hb => (yz40851.2 b j hb).trans (hfr.2 b j hb)⟩
    refine lv_aload_n hx hb dX2_addMark_23 rfl (lv_at hl 0 rfl) ?_
    refine lv_dup hx hb dX2_addMark_24 rfl ?_
    refine t_get (C := RX2) (T := TX2) (N := 5) X hT m0 g0 rfl rfl 4 (by decide) qw_462 inlX2 rfl dX2_addMark_25 (fun v40852 hv40852 ov40852 => ?_)
    obtain rfl : v40852 = .int z40844 := hv40852.symm.trans hv40843
    refine lv_iconst (v := 1) hx hb dX2_addMark_28 (by decide) ?_
    refine lv_iadd hx hb dX2_addMark_29 ?_
    refine lv_topi (fun z40853 ez40853 => ?_)
    have hz40853 : z40853.toInt = z40844.toInt + 1 := ar_add ez40853 (rfl : z40844.toInt = z40844.toInt) (by decide : (1 : Int32).toInt = 1) (by omega) (by omega)
    have rz40853 : 1 ≤ z40853.toInt ∧ z40853.toInt ≤ 3 := by omega
    refine t_put (C := RX2) (T := TX2) (N := 5) (v := .int z40853) X hT m0 g0 rfl tyX2 tyX2_ok nmX2 rfl 4 (by decide) qw_462 inlX2 rfl (by first | rfl | decide) (by first | rfl | decide) rfl (⟨_, rfl, (show 0 ≤ (z40853 : Int32).toInt from (by omega)), (show (z40853 : Int32).toInt ≤ 3 from (by omega))⟩) dX2_addMark_30 (fun F H locs hT v40854 h1v40854 h2v40854 => ?_)
    have hv40847 := (h1v40854 _ _ (Or.inr (by decide))).trans hv40847
    have hfr : (∀ b j : Nat, (tag b ≠ 19 ∨ j ≠ 0) → (tag b ≠ 19 ∨ j ≠ 1) → (tag b ≠ 23 ∨ j ≠ 4) → fld F b j = fld Fo b j) ∧ EF tag F Fo := ⟨fun b j n19_0 n19_1 n23_4 => (h1v40854 b j (fr_ne g0 n23_4)).trans (hfr.1 b j n19_0 n19_1 n23_4), fun b j hb => (h2v40854 b j).trans (hfr.2 b j hb)⟩
    refine lv_aload_n hx hb dX2_addMark_33 rfl (lv_at hl 0 rfl) ?_
    refine t_get (C := RX2) (T := TX2) (N := 5) X hT m0 g0 rfl rfl 4 (by decide) qw_462 inlX2 rfl dX2_addMark_34 (fun v40855 hv40855 ov40855 => ?_)
    obtain rfl : v40855 = .int z40853 := hv40855.symm.trans v40854
    refine lv_iconst (v := 1) hx hb dX2_addMark_37 (by decide) ?_
    refine lv_isub hx hb dX2_addMark_38 ?_
    refine lv_topi (fun z40856 ez40856 => ?_)
    have hz40856 : z40856.toInt = z40853.toInt - 1 := ar_sub ez40856 (rfl : z40853.toInt = z40853.toInt) (by decide : (1 : Int32).toInt = 1) (by omega) (by omega)
    have rz40856 : 0 ≤ z40856.toInt ∧ z40856.toInt ≤ 2 := by omega
    exact t_iret hQ X hT (⟨(by omega), hfr⟩) (Nat.le_of_ble_eq_true rfl) (Nat.le_of_ble_eq_true rfl) dX2_addMark_39
  · have w40857 := cv_nlt (rfl : z40844.toInt = z40844.toInt) (by decide : (3 : Int32).toInt = 3) c40845
    refine lv_iconst (v := (-1)) hx hb dX2_addMark_8 (by decide) ?_
    exact t_iret hQ X hT (⟨(by decide), hfr⟩) (Nat.le_of_ble_eq_true rfl) (Nat.le_of_ble_eq_true rfl) dX2_addMark_9
set_option maxHeartbeats 4000000 in
set_option maxRecDepth 100000 in
theorem kt112_X11_mark (l : Launch) (G : KG) (tag : Nat → Nat) (L : List Nat) (Fo : Nat → va_E) (ho : okT G ttC tag L Fo) (p0 : Nat) (m0 : p0 ∈ L) (g0 : tag p0 = 26) : TMi l yX11_mark cX11_mark 2 (some .int) { frames := 3, cells := 0, slots := 0, locals := 66 } G ttC tag L Fo [.ref p0] (fun r F1 => ((-2147483648) ≤ r.toInt ∧ r.toInt ≤ 2147483647) ∧ ((∀ b j : Nat, (tag b ≠ 19 ∨ j ≠ 0) → (tag b ≠ 19 ∨ j ≠ 1) → (tag b ≠ 23 ∨ j ≠ 4) → (tag b ≠ 26 ∨ j ≠ 13) → fld F1 b j = fld Fo b j) ∧ EF tag F1 Fo)) := by
  refine t_bodyi (y := yX11_mark) (cd := cX11_mark) (mL := 2) (rt := (some .int)) (rm := { frames := 3, cells := 0, slots := 0, locals := 66 }) (av := [.ref p0]) (by decide) (Nat.le_of_ble_eq_true rfl) ho ?_
  intro p e s m args below meth c ls A Q hQ X hT hl
  have hx := X.1.1
  have hb := X.1.2.1
  have hl : lv_has ls 2 [(0, .ref p0)] := hl
  obtain ⟨F, hFo⟩ : ∃ F : Nat → va_E, F = Fo := ⟨_, rfl⟩
  rw [← hFo] at hT
  have hfr : (∀ b j : Nat, (tag b ≠ 19 ∨ j ≠ 0) → (tag b ≠ 19 ∨ j ≠ 1) → (tag b ≠ 23 ∨ j ≠ 4) → (tag b ≠ 26 ∨ j ≠ 13) → fld F b j = fld Fo b j) ∧ EF tag F Fo := by
    rw [hFo]
    exact ⟨by intros; rfl, fun _ _ _ => rfl⟩
  refine lv_aload_n hx hb dX11_mark_0 rfl (lv_at hl 0 rfl) ?_
  refine t_get (C := RX11) (T := TX11) (N := 16) X hT m0 g0 rfl rfl 2 (by decide) qw_150 inlX11 rfl dX11_mark_1 (fun v41026 hv41026 ov41026 => ?_)
  obtain ⟨z41027, rfl, rz41027⟩ := okV_i ov41026
  refine lv_if_ne (tgt := 13) hx hb dX11_mark_4 (by decide) (fun c41028 => ?_) (fun c41028 => ?_)
  · have w41029 := cv_ne (rfl : z41027.toInt = z41027.toInt) (by decide : (0 : Int32).toInt = 0) c41028
    refine lv_aload_n hx hb dX11_mark_13 rfl (lv_at hl 0 rfl) ?_
    refine t_get (C := RX11) (T := TX11) (N := 16) X hT m0 g0 rfl rfl 12 (by decide) qw_45 inlX11 rfl dX11_mark_14 (fun v41030 hv41030 ov41030 => ?_)
    obtain ⟨b41031, rfl, mb41031, gb41031⟩ := okV_r ov41030
    have gb41031 : tag b41031 = 23 := tg_of gb41031
    refine lv_aload_n hx hb dX11_mark_17 rfl (lv_at hl 0 rfl) ?_
    refine t_get (C := RX11) (T := TX11) (N := 16) X hT m0 g0 rfl rfl 5 (by decide) qw_23 inlX11 rfl dX11_mark_18 (fun v41032 hv41032 ov41032 => ?_)
    obtain ⟨b41033, rfl, mb41033, gb41033⟩ := okV_r ov41032
    have gb41033 : tag b41033 = 19 := tg_of gb41033
    refine t_cVi (n := 1) (C := RX2) (T := TX2) (N := 5) (As := [.ref b41033]) (rest := []) X hT (kt111_X2_addMark l G tag L F hT.2.2.2 b41031 b41033 mb41031 gb41031 mb41033 gb41033) mb41031 gb41031 rfl rfl qw_1533 qw_1534 qw_1535 qw_44 qw_1536 ⟨rfl, by decide +kernel, by decide +kernel, by decide +kernel⟩ ⟨Nat.le_of_ble_eq_true rfl, Nat.le_of_ble_eq_true rfl⟩ hl rfl rfl (Nat.le_of_ble_eq_true rfl) dX11_mark_21 ⟨Nat.le_of_ble_eq_true rfl, Nat.le_of_ble_eq_true rfl⟩ (fun z41034 F H locs hT hz41034 => ?_)
    obtain ⟨hz41034, yz41034⟩ := hz41034
    have hv41026 := (yz41034.1 _ 2 (Or.inr (by decide)) (Or.inr (by decide)) (Or.inr (by decide))).trans hv41026
    have hv41030 := (yz41034.1 _ 12 (Or.inr (by decide)) (Or.inr (by decide)) (Or.inr (by decide))).trans hv41030
    have hv41032 := (yz41034.1 _ 5 (Or.inr (by decide)) (Or.inr (by decide)) (Or.inr (by decide))).trans hv41032
    have hfr : (∀ b j : Nat, (tag b ≠ 19 ∨ j ≠ 0) → (tag b ≠ 19 ∨ j ≠ 1) → (tag b ≠ 23 ∨ j ≠ 4) → (tag b ≠ 26 ∨ j ≠ 13) → fld F b j = fld Fo b j) ∧ EF tag F Fo := ⟨fun b j n19_0 n19_1 n23_4 n26_13 => (yz41034.1 b j n19_0 n19_1 n23_4).trans (hfr.1 b j n19_0 n19_1 n23_4 n26_13), fun b j hb => (yz41034.2 b j hb).trans (hfr.2 b j hb)⟩
    refine lv_istore_n (lv' := [(1, .int z41034), (0, .ref p0)]) hx hb dX11_mark_24 rfl hl (by decide) rfl (fun ls hl => ?_)
    refine lv_iload_n hx hb dX11_mark_25 rfl (lv_at hl 0 rfl) ?_
    refine lv_iconst (v := (-1)) hx hb dX11_mark_26 (by decide) ?_
    refine lv_icmp_ne (tgt := 38) hx hb dX11_mark_27 (by decide) (fun c41035 => ?_) (fun c41035 => ?_)
    · have w41036 := cv_ne (rfl : z41034.toInt = z41034.toInt) (by decide : ((-1) : Int32).toInt = (-1)) c41035
      refine lv_aload_n hx hb dX11_mark_38 rfl (lv_at hl 1 rfl) ?_
      refine lv_iload_n hx hb dX11_mark_39 rfl (lv_at hl 0 rfl) ?_
      refine t_cVi (n := 1) (C := RX11) (T := TX11) (N := 16) (As := [.int z41034]) (rest := []) X hT (kt56_X11_answer l G tag L F hT.2.2.2 p0 z41034 m0 g0) m0 g0 rfl rfl qw_463 qw_464 qw_465 qw_2 qw_466 ⟨rfl, by decide +kernel, by decide +kernel, by decide +kernel⟩ ⟨Nat.le_of_ble_eq_true rfl, Nat.le_of_ble_eq_true rfl⟩ hl rfl rfl (Nat.le_of_ble_eq_true rfl) dX11_mark_40 ⟨Nat.le_of_ble_eq_true rfl, Nat.le_of_ble_eq_true rfl⟩ (fun z41037 F H locs hT hz41037 => ?_)
      obtain ⟨hz41037, yz41037⟩ := hz41037
      have hv41026 := (yz41037.1 _ 2 (Or.inr (by decide))).trans hv41026
      have hv41030 := (yz41037.1 _ 12 (Or.inr (by decide))).trans hv41030
      have hv41032 := (yz41037.1 _ 5 (Or.inr (by decide))).trans hv41032
      have hfr : (∀ b j : Nat, (tag b ≠ 19 ∨ j ≠ 0) → (tag b ≠ 19 ∨ j ≠ 1) → (tag b ≠ 23 ∨ j ≠ 4) → (tag b ≠ 26 ∨ j ≠ 13) → fld F b j = fld Fo b j) ∧ EF tag F Fo := ⟨fun b j n19_0 n19_1 n23_4 n26_13 => (yz41037.1 b j n26_13).trans (hfr.1 b j n19_0 n19_1 n23_4 n26_13), fun b j hb => (yz41037.2 b j hb).trans (hfr.2 b j hb)⟩
      exact t_iret hQ X hT (⟨rg_all _, hfr⟩) (Nat.le_of_ble_eq_true rfl) (Nat.le_of_ble_eq_true rfl) dX11_mark_43
    · have w41038 := cv_eq (rfl : z41034.toInt = z41034.toInt) (by decide : ((-1) : Int32).toInt = (-1)) c41035
      refine lv_aload_n hx hb dX11_mark_30 rfl (lv_at hl 1 rfl) ?_
      refine lv_iconst (v := 3) hx hb dX11_mark_31 (by decide) ?_
      refine t_cVi (n := 1) (C := RX11) (T := TX11) (N := 16) (As := [.int 3]) (rest := []) X hT (kt63_X11_refuse l G tag L F hT.2.2.2 p0 3 m0 g0) m0 g0 rfl rfl qw_152 qw_153 qw_154 qw_2 qw_155 ⟨rfl, by decide +kernel, by decide +kernel, by decide +kernel⟩ ⟨Nat.le_of_ble_eq_true rfl, Nat.le_of_ble_eq_true rfl⟩ hl rfl rfl (Nat.le_of_ble_eq_true rfl) dX11_mark_32 ⟨Nat.le_of_ble_eq_true rfl, Nat.le_of_ble_eq_true rfl⟩ (fun z41039 F H locs hT hz41039 => ?_)
      obtain ⟨hz41039, yz41039⟩ := hz41039
      have hv41026 := (yz41039.1 _ 2 (Or.inr (by decide))).trans hv41026
      have hv41030 := (yz41039.1 _ 12 (Or.inr (by decide))).trans hv41030
      have hv41032 := (yz41039.1 _ 5 (Or.inr (by decide))).trans hv41032
      have hfr : (∀ b j : Nat, (tag b ≠ 19 ∨ j ≠ 0) → (tag b ≠ 19 ∨ j ≠ 1) → (tag b ≠ 23 ∨ j ≠ 4) → (tag b ≠ 26 ∨ j ≠ 13) → fld F b j = fld Fo b j) ∧ EF tag F Fo := ⟨fun b j n19_0 n19_1 n23_4 n26_13 => (yz41039.1 b j n26_13).trans (hfr.1 b j n19_0 n19_1 n23_4 n26_13), fun b j hb => (yz41039.2 b j hb).trans (hfr.2 b j hb)⟩
      refine lv_goto (tgt := 43) hx hb dX11_mark_35 (by decide) ?_
      exact t_iret hQ X hT (⟨rg_all _, hfr⟩) (Nat.le_of_ble_eq_true rfl) (Nat.le_of_ble_eq_true rfl) dX11_mark_43
  · have w41040 := cv_eq (rfl : z41027.toInt = z41027.toInt) (by decide : (0 : Int32).toInt = 0) c41028
    refine lv_aload_n hx hb dX11_mark_7 rfl (lv_at hl 0 rfl) ?_
    refine lv_iconst (v := 1) hx hb dX11_mark_8 (by decide) ?_
    refine t_cVi (n := 1) (C := RX11) (T := TX11) (N := 16) (As := [.int 1]) (rest := []) X hT (kt63_X11_refuse l G tag L F hT.2.2.2 p0 1 m0 g0) m0 g0 rfl rfl qw_152 qw_153 qw_154 qw_2 qw_155 ⟨rfl, by decide +kernel, by decide +kernel, by decide +kernel⟩ ⟨Nat.le_of_ble_eq_true rfl, Nat.le_of_ble_eq_true rfl⟩ hl rfl rfl (Nat.le_of_ble_eq_true rfl) dX11_mark_9 ⟨Nat.le_of_ble_eq_true rfl, Nat.le_of_ble_eq_true rfl⟩ (fun z41041 F H locs hT hz41041 => ?_)
    obtain ⟨hz41041, yz41041⟩ := hz41041
    have hv41026 := (yz41041.1 _ 2 (Or.inr (by decide))).trans hv41026
    have hfr : (∀ b j : Nat, (tag b ≠ 19 ∨ j ≠ 0) → (tag b ≠ 19 ∨ j ≠ 1) → (tag b ≠ 23 ∨ j ≠ 4) → (tag b ≠ 26 ∨ j ≠ 13) → fld F b j = fld Fo b j) ∧ EF tag F Fo := ⟨fun b j n19_0 n19_1 n23_4 n26_13 => (yz41041.1 b j n26_13).trans (hfr.1 b j n19_0 n19_1 n23_4 n26_13), fun b j hb => (yz41041.2 b j hb).trans (hfr.2 b j hb)⟩
    exact t_iret hQ X hT (⟨rg_all _, hfr⟩) (Nat.le_of_ble_eq_true rfl) (Nat.le_of_ble_eq_true rfl) dX11_mark_12
set_option maxHeartbeats 4000000 in
set_option maxRecDepth 100000 in
theorem kt113_X11_meet (l : Launch) (G : KG) (tag : Nat → Nat) (L : List Nat) (Fo : Nat → va_E) (ho : okT G ttC tag L Fo) (p0 : Nat) (p1 : Int32) (p2 : Int32) (p3 : Int32) (m0 : p0 ∈ L) (g0 : tag p0 = 26) : TMi l yX11_meet cX11_meet 5 (some .int) { frames := 6, cells := 0, slots := 0, locals := 157 } G ttC tag L Fo [.ref p0, .int p1, .int p2, .int p3] (fun r F1 => ((-2147483648) ≤ r.toInt ∧ r.toInt ≤ 2147483647) ∧ ((∀ b j : Nat, (tag b ≠ 19 ∨ j ≠ 0) → (tag b ≠ 19 ∨ j ≠ 1) → (tag b ≠ 26 ∨ j ≠ 13) → fld F1 b j = fld Fo b j) ∧ EF tag F1 Fo)) := by
  refine t_bodyi (y := yX11_meet) (cd := cX11_meet) (mL := 5) (rt := (some .int)) (rm := { frames := 6, cells := 0, slots := 0, locals := 157 }) (av := [.ref p0, .int p1, .int p2, .int p3]) (by decide) (Nat.le_of_ble_eq_true rfl) ho ?_
  intro p e s m args below meth c ls A Q hQ X hT hl
  have hx := X.1.1
  have hb := X.1.2.1
  have hl : lv_has ls 5 [(0, .ref p0), (1, .int p1), (2, .int p2), (3, .int p3)] := hl
  have rp1 := rg_all p1
  have rp2 := rg_all p2
  have rp3 := rg_all p3
  obtain ⟨F, hFo⟩ : ∃ F : Nat → va_E, F = Fo := ⟨_, rfl⟩
  rw [← hFo] at hT
  have hfr : (∀ b j : Nat, (tag b ≠ 19 ∨ j ≠ 0) → (tag b ≠ 19 ∨ j ≠ 1) → (tag b ≠ 26 ∨ j ≠ 13) → fld F b j = fld Fo b j) ∧ EF tag F Fo := by
    rw [hFo]
    exact ⟨by intros; rfl, fun _ _ _ => rfl⟩
  have K21 : ∀  (F : Nat → va_E) (H : Heap) (locs : List Loc) (ls : Array Slot), TH G ttC A s tag L F H locs → ((∀ b j : Nat, (tag b ≠ 19 ∨ j ≠ 0) → (tag b ≠ 19 ∨ j ≠ 1) → (tag b ≠ 26 ∨ j ≠ 13) → fld F b j = fld Fo b j) ∧ EF tag F Fo) → lv_has ls 5 [(0, .ref p0), (1, .int p1), (2, .int p2), (3, .int p3)] → W p l e { frames := 6, cells := 0, slots := 0, locals := 157 } s m args below meth c H locs 0 0 Q (F0 m 21 ls []) := by
    intro F H locs ls hT hfr hl
    refine lv_aload_n hx hb dX11_meet_21 rfl (lv_at hl 0 rfl) ?_
    refine lv_iconst (v := 1) hx hb dX11_meet_22 (by decide) ?_
    refine t_cVi (n := 1) (C := RX11) (T := TX11) (N := 16) (As := [.int 1]) (rest := []) X hT (kt63_X11_refuse l G tag L F hT.2.2.2 p0 1 m0 g0) m0 g0 rfl rfl qw_152 qw_153 qw_154 qw_2 qw_155 ⟨rfl, by decide +kernel, by decide +kernel, by decide +kernel⟩ ⟨Nat.le_of_ble_eq_true rfl, Nat.le_of_ble_eq_true rfl⟩ hl rfl rfl (Nat.le_of_ble_eq_true rfl) dX11_meet_23 ⟨Nat.le_of_ble_eq_true rfl, Nat.le_of_ble_eq_true rfl⟩ (fun z41877 F H locs hT hz41877 => ?_)
    obtain ⟨hz41877, yz41877⟩ := hz41877
    have hfr : (∀ b j : Nat, (tag b ≠ 19 ∨ j ≠ 0) → (tag b ≠ 19 ∨ j ≠ 1) → (tag b ≠ 26 ∨ j ≠ 13) → fld F b j = fld Fo b j) ∧ EF tag F Fo := ⟨fun b j n19_0 n19_1 n26_13 => (yz41877.1 b j n26_13).trans (hfr.1 b j n19_0 n19_1 n26_13), fun b j hb => (yz41877.2 b j hb).trans (hfr.2 b j hb)⟩
    exact t_iret hQ X hT (⟨rg_all _, hfr⟩) (Nat.le_of_ble_eq_true rfl) (Nat.le_of_ble_eq_true rfl) dX11_meet_26
  have K37 : ∀  (F : Nat → va_E) (H : Heap) (locs : List Loc) (ls : Array Slot), (0 ≤ p1.toInt ∧ p1.toInt ≤ 3) → (0 ≤ p2.toInt ∧ p2.toInt ≤ 3) → TH G ttC A s tag L F H locs → ((∀ b j : Nat, (tag b ≠ 19 ∨ j ≠ 0) → (tag b ≠ 19 ∨ j ≠ 1) → (tag b ≠ 26 ∨ j ≠ 13) → fld F b j = fld Fo b j) ∧ EF tag F Fo) → lv_has ls 5 [(0, .ref p0), (1, .int p1), (2, .int p2), (3, .int p3)] → W p l e { frames := 6, cells := 0, slots := 0, locals := 157 } s m args below meth c H locs 0 0 Q (F0 m 37 ls []) := by
    intro F H locs ls r9s41878 r9s41879 hT hfr hl
    refine lv_aload_n hx hb dX11_meet_37 rfl (lv_at hl 0 rfl) ?_
    refine lv_iconst (v := 2) hx hb dX11_meet_38 (by decide) ?_
    refine t_cVi (n := 1) (C := RX11) (T := TX11) (N := 16) (As := [.int 2]) (rest := []) X hT (kt63_X11_refuse l G tag L F hT.2.2.2 p0 2 m0 g0) m0 g0 rfl rfl qw_152 qw_153 qw_154 qw_2 qw_155 ⟨rfl, by decide +kernel, by decide +kernel, by decide +kernel⟩ ⟨Nat.le_of_ble_eq_true rfl, Nat.le_of_ble_eq_true rfl⟩ hl rfl rfl (Nat.le_of_ble_eq_true rfl) dX11_meet_39 ⟨Nat.le_of_ble_eq_true rfl, Nat.le_of_ble_eq_true rfl⟩ (fun z41880 F H locs hT hz41880 => ?_)
    obtain ⟨hz41880, yz41880⟩ := hz41880
    have hfr : (∀ b j : Nat, (tag b ≠ 19 ∨ j ≠ 0) → (tag b ≠ 19 ∨ j ≠ 1) → (tag b ≠ 26 ∨ j ≠ 13) → fld F b j = fld Fo b j) ∧ EF tag F Fo := ⟨fun b j n19_0 n19_1 n26_13 => (yz41880.1 b j n26_13).trans (hfr.1 b j n19_0 n19_1 n26_13), fun b j hb => (yz41880.2 b j hb).trans (hfr.2 b j hb)⟩
    exact t_iret hQ X hT (⟨rg_all _, hfr⟩) (Nat.le_of_ble_eq_true rfl) (Nat.le_of_ble_eq_true rfl) dX11_meet_42
  have K57 : ∀ (n : Nat) (z41884 : Int32) (F : Nat → va_E) (H : Heap) (locs : List Loc) (ls : Array Slot), (61 - z41884.toInt < (n : Int)) → (0 ≤ z41884.toInt ∧ z41884.toInt ≤ 61) → (0 ≤ p1.toInt ∧ p1.toInt ≤ 3) → (0 ≤ p2.toInt ∧ p2.toInt ≤ 3) → (0 ≤ p3.toInt ∧ p3.toInt ≤ 60) → TH G ttC A s tag L F H locs → ((∀ b j : Nat, (tag b ≠ 19 ∨ j ≠ 0) → (tag b ≠ 19 ∨ j ≠ 1) → (tag b ≠ 26 ∨ j ≠ 13) → fld F b j = fld Fo b j) ∧ EF tag F Fo) → lv_has ls 5 [(0, .ref p0), (1, .int p1), (2, .int p2), (3, .int p3), (4, .int z41884)] → W p l e { frames := 6, cells := 0, slots := 0, locals := 157 } s m args below meth c H locs 0 0 Q (F0 m 57 ls []) := by
    intro n
    induction n with
    | zero =>
      intro z41884 F H locs ls hn rz41884 r9s41881 r9s41882 r9s41883 hT hfr hl
      exfalso
      omega
    | succ n ih57 =>
      intro z41884 F H locs ls hn rz41884 r9s41881 r9s41882 r9s41883 hT hfr hl
      refine lv_iload hx hb dX11_meet_57 (lv_at hl 4 rfl) ?_
      refine lv_iload_n hx hb dX11_meet_59 rfl (lv_at hl 3 rfl) ?_
      refine lv_icmp_gt (tgt := 106) hx hb dX11_meet_60 (by decide) (fun c41885 => ?_) (fun c41885 => ?_)
      · have w41886 := cv_lt (rfl : p3.toInt = p3.toInt) (rfl : z41884.toInt = z41884.toInt) c41885
        refine lv_aload_n hx hb dX11_meet_106 rfl (lv_at hl 0 rfl) ?_
        refine lv_bipush (v := (-2)) hx hb dX11_meet_107 (by decide) ?_
        refine t_cVi (n := 1) (C := RX11) (T := TX11) (N := 16) (As := [.int (-2)]) (rest := []) X hT (kt56_X11_answer l G tag L F hT.2.2.2 p0 (-2) m0 g0) m0 g0 rfl rfl qw_463 qw_464 qw_465 qw_2 qw_466 ⟨rfl, by decide +kernel, by decide +kernel, by decide +kernel⟩ ⟨Nat.le_of_ble_eq_true rfl, Nat.le_of_ble_eq_true rfl⟩ hl rfl rfl (Nat.le_of_ble_eq_true rfl) dX11_meet_109 ⟨Nat.le_of_ble_eq_true rfl, Nat.le_of_ble_eq_true rfl⟩ (fun z41887 F H locs hT hz41887 => ?_)
        obtain ⟨hz41887, yz41887⟩ := hz41887
        have hfr : (∀ b j : Nat, (tag b ≠ 19 ∨ j ≠ 0) → (tag b ≠ 19 ∨ j ≠ 1) → (tag b ≠ 26 ∨ j ≠ 13) → fld F b j = fld Fo b j) ∧ EF tag F Fo := ⟨fun b j n19_0 n19_1 n26_13 => (yz41887.1 b j n26_13).trans (hfr.1 b j n19_0 n19_1 n26_13), fun b j hb => (yz41887.2 b j hb).trans (hfr.2 b j hb)⟩
        exact t_iret hQ X hT (⟨rg_all _, hfr⟩) (Nat.le_of_ble_eq_true rfl) (Nat.le_of_ble_eq_true rfl) dX11_meet_112
      · have w41888 := cv_nlt (rfl : p3.toInt = p3.toInt) (rfl : z41884.toInt = z41884.toInt) c41885
        refine lv_aload_n hx hb dX11_meet_63 rfl (lv_at hl 0 rfl) ?_
        refine t_get (C := RX11) (T := TX11) (N := 16) X hT m0 g0 rfl rfl 3 (by decide) qw_18 inlX11 rfl dX11_meet_64 (fun v41889 hv41889 ov41889 => ?_)
        obtain ⟨b41890, rfl, mb41890, gb41890⟩ := okV_r ov41889
        have gb41890 : tag b41890 = 18 := tg_of gb41890
        refine lv_aload_n hx hb dX11_meet_67 rfl (lv_at hl 0 rfl) ?_
        refine t_get (C := RX11) (T := TX11) (N := 16) X hT m0 g0 rfl rfl 7 (by decide) qw_25 inlX11 rfl dX11_meet_68 (fun v41891 hv41891 ov41891 => ?_)
        obtain ⟨b41892, rfl, mb41892, gb41892⟩ := okV_r ov41891
        have gb41892 : tag b41892 = 19 := tg_of gb41892
        refine lv_iload_n hx hb dX11_meet_71 rfl (lv_at hl 1 rfl) ?_
        refine lv_iload_n hx hb dX11_meet_72 rfl (lv_at hl 2 rfl) ?_
        refine t_cSi (n := 4) (As := [.ref b41890, .ref b41892, .int p1, .int p2]) (rest := []) X hT (kt32_X6_isMet l G tag L F hT.2.2.2 b41890 b41892 p1 p2 mb41890 gb41890 mb41892 gb41892 (by omega) (by omega)) qw_1197 qw_1198 qw_380 qw_1199 ⟨by decide +kernel, by decide +kernel, by decide +kernel⟩ ⟨Nat.le_of_ble_eq_true rfl, Nat.le_of_ble_eq_true rfl⟩ hl rfl rfl (Nat.le_of_ble_eq_true rfl) dX11_meet_73 ⟨Nat.le_of_ble_eq_true rfl, Nat.le_of_ble_eq_true rfl⟩ (fun z41893 F9 H locs hT hz41893 => ?_)
        obtain ⟨fz41893, hz41893⟩ := hz41893
        rw [fz41893] at hT
        refine lv_if_eq (tgt := 86) hx hb dX11_meet_76 (by decide) (fun c41894 => ?_) (fun c41894 => ?_)
        · have w41895 := cv_eq (rfl : z41893.toInt = z41893.toInt) (by decide : (0 : Int32).toInt = 0) c41894
          refine lv_aload_n hx hb dX11_meet_86 rfl (lv_at hl 0 rfl) ?_
          refine t_get (C := RX11) (T := TX11) (N := 16) X hT m0 g0 rfl rfl 3 (by decide) qw_18 inlX11 rfl dX11_meet_87 (fun v41896 hv41896 ov41896 => ?_)
          obtain rfl : v41896 = .ref b41890 := hv41896.symm.trans hv41889
          refine lv_aload_n hx hb dX11_meet_90 rfl (lv_at hl 0 rfl) ?_
          refine t_get (C := RX11) (T := TX11) (N := 16) X hT m0 g0 rfl rfl 7 (by decide) qw_25 inlX11 rfl dX11_meet_91 (fun v41897 hv41897 ov41897 => ?_)
          obtain rfl : v41897 = .ref b41892 := hv41897.symm.trans hv41891
          refine t_gets X hT X.2.2.2.1.2.2.2.2 qw_1096 dX11_meet_94 ?_
          refine t_cSv (n := 3) (As := [.ref b41890, .ref b41892, .ref (G.2 13)]) (rest := []) X hT (kt71_X10_pass l G tag L F hT.2.2.2 b41890 b41892 mb41890 gb41890 mb41892 gb41892) qw_1097 qw_1098 qw_32 qw_1099 ⟨by decide +kernel, by decide +kernel, by decide +kernel⟩ ⟨Nat.le_of_ble_eq_true rfl, Nat.le_of_ble_eq_true rfl⟩ hl rfl rfl (Nat.le_of_ble_eq_true rfl) dX11_meet_97 ⟨Nat.le_of_ble_eq_true rfl, Nat.le_of_ble_eq_true rfl⟩ (fun F H locs hT hz41898 => ?_)
          have yz41898 := hz41898
          have hv41889 := (yz41898.1 _ 3 (Or.inr (by decide)) (Or.inr (by decide))).trans hv41889
          have hv41891 := (yz41898.1 _ 7 (Or.inr (by decide)) (Or.inr (by decide))).trans hv41891
          have hfr : (∀ b j : Nat, (tag b ≠ 19 ∨ j ≠ 0) → (tag b ≠ 19 ∨ j ≠ 1) → (tag b ≠ 26 ∨ j ≠ 13) → fld F b j = fld Fo b j) ∧ EF tag F Fo := ⟨fun b j n19_0 n19_1 n26_13 => (yz41898.1 b j n19_0 n19_1).trans (hfr.1 b j n19_0 n19_1 n26_13), fun b j hb => (yz41898.2 b j hb).trans (hfr.2 b j hb)⟩
          obtain ⟨z41899, ez41899⟩ : ∃ y : Int32, y = z41884 + 1 := ⟨_, rfl⟩
          have hz41899 : z41899.toInt = z41884.toInt + 1 := ar_add ez41899 rfl (by decide : (1 : Int32).toInt = 1) (by omega) (by omega)
          refine lv_iinc (v := z41899) (lv' := [(4, .int z41899), (0, .ref p0), (1, .int p1), (2, .int p2), (3, .int p3)]) hx hb dX11_meet_100 hl (k := 4) rfl (by rw [ez41899]; rfl) (by decide) rfl (fun ls hl => ?_)
          refine lv_goto (tgt := 57) hx hb dX11_meet_103 (by decide) ?_
          exact ih57 z41899 _ _ _ _ (by omega) (by omega) (by omega) (by omega) (by omega) hT hfr  (lv_sub hl [1, 2, 3, 4, 0] rfl)
        · have w41900 := cv_ne (rfl : z41893.toInt = z41893.toInt) (by decide : (0 : Int32).toInt = 0) c41894
          refine lv_aload_n hx hb dX11_meet_79 rfl (lv_at hl 0 rfl) ?_
          refine lv_iload hx hb dX11_meet_80 (lv_at hl 4 rfl) ?_
          refine t_cVi (n := 1) (C := RX11) (T := TX11) (N := 16) (As := [.int z41884]) (rest := []) X hT (kt56_X11_answer l G tag L F hT.2.2.2 p0 z41884 m0 g0) m0 g0 rfl rfl qw_463 qw_464 qw_465 qw_2 qw_466 ⟨rfl, by decide +kernel, by decide +kernel, by decide +kernel⟩ ⟨Nat.le_of_ble_eq_true rfl, Nat.le_of_ble_eq_true rfl⟩ hl rfl rfl (Nat.le_of_ble_eq_true rfl) dX11_meet_82 ⟨Nat.le_of_ble_eq_true rfl, Nat.le_of_ble_eq_true rfl⟩ (fun z41901 F H locs hT hz41901 => ?_)
          obtain ⟨hz41901, yz41901⟩ := hz41901
          have hv41889 := (yz41901.1 _ 3 (Or.inr (by decide))).trans hv41889
          have hv41891 := (yz41901.1 _ 7 (Or.inr (by decide))).trans hv41891
          have hfr : (∀ b j : Nat, (tag b ≠ 19 ∨ j ≠ 0) → (tag b ≠ 19 ∨ j ≠ 1) → (tag b ≠ 26 ∨ j ≠ 13) → fld F b j = fld Fo b j) ∧ EF tag F Fo := ⟨fun b j n19_0 n19_1 n26_13 => (yz41901.1 b j n26_13).trans (hfr.1 b j n19_0 n19_1 n26_13), fun b j hb => (yz41901.2 b j hb).trans (hfr.2 b j hb)⟩
          exact t_iret hQ X hT (⟨rg_all _, hfr⟩) (Nat.le_of_ble_eq_true rfl) (Nat.le_of_ble_eq_true rfl) dX11_meet_85
  refine lv_aload_n hx hb dX11_meet_0 rfl (lv_at hl 0 rfl) ?_
  refine lv_iload_n hx hb dX11_meet_1 rfl (lv_at hl 1 rfl) ?_
  refine t_cVi (n := 1) (C := RX11) (T := TX11) (N := 16) (As := [.int p1]) (rest := []) X hT (kt61_X11_isHouse l G tag L F hT.2.2.2 p0 p1 m0 g0) m0 g0 rfl rfl qw_770 qw_771 qw_772 qw_2 qw_773 ⟨rfl, by decide +kernel, by decide +kernel, by decide +kernel⟩ ⟨Nat.le_of_ble_eq_true rfl, Nat.le_of_ble_eq_true rfl⟩ hl rfl rfl (Nat.le_of_ble_eq_true rfl) dX11_meet_2 ⟨Nat.le_of_ble_eq_true rfl, Nat.le_of_ble_eq_true rfl⟩ (fun z41902 F9 H locs hT hz41902 => ?_)
  obtain ⟨fz41902, hz41902⟩ := hz41902
  rw [fz41902] at hT
  obtain ⟨hz41902, iz41902⟩ := hz41902
  refine lv_if_eq (tgt := 21) hx hb dX11_meet_5 (by decide) (fun c41903 => ?_) (fun c41903 => ?_)
  · have w41904 := cv_eq (rfl : z41902.toInt = z41902.toInt) (by decide : (0 : Int32).toInt = 0) c41903
    exact K21  _ _ _ _  hT hfr  (lv_sub hl [0, 1, 2, 3] rfl)
  · have w41905 := cv_ne (rfl : z41902.toInt = z41902.toInt) (by decide : (0 : Int32).toInt = 0) c41903
    have w41906 := (fun h => (iz41902 h)) (by omega)
    refine lv_aload_n hx hb dX11_meet_8 rfl (lv_at hl 0 rfl) ?_
    refine lv_iload_n hx hb dX11_meet_9 rfl (lv_at hl 2 rfl) ?_
    refine t_cVi (n := 1) (C := RX11) (T := TX11) (N := 16) (As := [.int p2]) (rest := []) X hT (kt61_X11_isHouse l G tag L F hT.2.2.2 p0 p2 m0 g0) m0 g0 rfl rfl qw_770 qw_771 qw_772 qw_2 qw_773 ⟨rfl, by decide +kernel, by decide +kernel, by decide +kernel⟩ ⟨Nat.le_of_ble_eq_true rfl, Nat.le_of_ble_eq_true rfl⟩ hl rfl rfl (Nat.le_of_ble_eq_true rfl) dX11_meet_10 ⟨Nat.le_of_ble_eq_true rfl, Nat.le_of_ble_eq_true rfl⟩ (fun z41907 F9 H locs hT hz41907 => ?_)
    obtain ⟨fz41907, hz41907⟩ := hz41907
    rw [fz41907] at hT
    obtain ⟨hz41907, iz41907⟩ := hz41907
    refine lv_if_eq (tgt := 21) hx hb dX11_meet_13 (by decide) (fun c41908 => ?_) (fun c41908 => ?_)
    · have w41909 := cv_eq (rfl : z41907.toInt = z41907.toInt) (by decide : (0 : Int32).toInt = 0) c41908
      exact K21  _ _ _ _  hT hfr  (lv_sub hl [0, 1, 2, 3] rfl)
    · have w41910 := cv_ne (rfl : z41907.toInt = z41907.toInt) (by decide : (0 : Int32).toInt = 0) c41908
      have w41911 := (fun h => (iz41907 h)) (by omega)
      refine lv_iload_n hx hb dX11_meet_16 rfl (lv_at hl 1 rfl) ?_
      refine lv_iload_n hx hb dX11_meet_17 rfl (lv_at hl 2 rfl) ?_
      refine lv_icmp_ne (tgt := 27) hx hb dX11_meet_18 (by decide) (fun c41912 => ?_) (fun c41912 => ?_)
      · have w41913 := cv_ne (rfl : p1.toInt = p1.toInt) (rfl : p2.toInt = p2.toInt) c41912
        refine lv_iload_n hx hb dX11_meet_27 rfl (lv_at hl 3 rfl) ?_
        refine lv_if_lt (tgt := 37) hx hb dX11_meet_28 (by decide) (fun c41914 => ?_) (fun c41914 => ?_)
        · have w41915 := cv_lt (rfl : p3.toInt = p3.toInt) (by decide : (0 : Int32).toInt = 0) c41914
          exact K37  _ _ _ _ (by omega) (by omega) hT hfr  (lv_sub hl [0, 1, 2, 3] rfl)
        · have w41916 := cv_nlt (rfl : p3.toInt = p3.toInt) (by decide : (0 : Int32).toInt = 0) c41914
          refine lv_iload_n hx hb dX11_meet_31 rfl (lv_at hl 3 rfl) ?_
          refine lv_bipush (v := 60) hx hb dX11_meet_32 (by decide) ?_
          refine lv_icmp_le (tgt := 43) hx hb dX11_meet_34 (by decide) (fun c41917 => ?_) (fun c41917 => ?_)
          · have w41918 := cv_le (rfl : p3.toInt = p3.toInt) (by decide : (60 : Int32).toInt = 60) c41917
            refine lv_aload_n hx hb dX11_meet_43 rfl (lv_at hl 0 rfl) ?_
            refine t_get (C := RX11) (T := TX11) (N := 16) X hT m0 g0 rfl rfl 7 (by decide) qw_25 inlX11 rfl dX11_meet_44 (fun v41919 hv41919 ov41919 => ?_)
            obtain ⟨b41920, rfl, mb41920, gb41920⟩ := okV_r ov41919
            have gb41920 : tag b41920 = 19 := tg_of gb41920
            refine lv_aload_n hx hb dX11_meet_47 rfl (lv_at hl 0 rfl) ?_
            refine t_get (C := RX11) (T := TX11) (N := 16) X hT m0 g0 rfl rfl 5 (by decide) qw_23 inlX11 rfl dX11_meet_48 (fun v41921 hv41921 ov41921 => ?_)
            obtain ⟨b41922, rfl, mb41922, gb41922⟩ := okV_r ov41921
            have gb41922 : tag b41922 = 19 := tg_of gb41922
            refine t_cVv (n := 1) (C := RX7) (T := TX7) (N := 7) (As := [.ref b41922]) (rest := []) X hT (kt49_X7_copyFrom l G tag L F hT.2.2.2 b41920 b41922 mb41920 gb41920 mb41922 gb41922) mb41920 gb41920 rfl rfl qw_449 qw_450 qw_451 qw_22 qw_452 ⟨rfl, by decide +kernel, by decide +kernel, by decide +kernel⟩ ⟨Nat.le_of_ble_eq_true rfl, Nat.le_of_ble_eq_true rfl⟩ hl rfl rfl (Nat.le_of_ble_eq_true rfl) dX11_meet_51 ⟨Nat.le_of_ble_eq_true rfl, Nat.le_of_ble_eq_true rfl⟩ (fun F H locs hT hz41923 => ?_)
            have yz41923 := hz41923
            have hv41919 := (yz41923.1 _ 7 (Or.inr (by decide)) (Or.inr (by decide))).trans hv41919
            have hv41921 := (yz41923.1 _ 5 (Or.inr (by decide)) (Or.inr (by decide))).trans hv41921
            have hfr : (∀ b j : Nat, (tag b ≠ 19 ∨ j ≠ 0) → (tag b ≠ 19 ∨ j ≠ 1) → (tag b ≠ 26 ∨ j ≠ 13) → fld F b j = fld Fo b j) ∧ EF tag F Fo := ⟨fun b j n19_0 n19_1 n26_13 => (yz41923.1 b j n19_0 n19_1).trans (hfr.1 b j n19_0 n19_1 n26_13), fun b j hb => (yz41923.2 b j hb).trans (hfr.2 b j hb)⟩
            refine lv_iconst (v := 0) hx hb dX11_meet_54 (by decide) ?_
            refine lv_istore (lv' := [(4, .int 0), (0, .ref p0), (1, .int p1), (2, .int p2), (3, .int p3)]) hx hb dX11_meet_55 hl (by decide) rfl (fun ls hl => ?_)
            have kk41924 : (0 : Int32).toInt = 0 := by decide
            exact K57 62 0 _ _ _ _ (by omega) (by decide) (by omega) (by omega) (by omega) hT hfr  (lv_sub hl [1, 2, 3, 4, 0] rfl)
          · have w41925 := cv_nle (rfl : p3.toInt = p3.toInt) (by decide : (60 : Int32).toInt = 60) c41917
            exact K37  _ _ _ _ (by omega) (by omega) hT hfr  (lv_sub hl [0, 1, 2, 3] rfl)
      · have w41926 := cv_eq (rfl : p1.toInt = p1.toInt) (rfl : p2.toInt = p2.toInt) c41912
        exact K21  _ _ _ _  hT hfr  (lv_sub hl [0, 1, 2, 3] rfl)
