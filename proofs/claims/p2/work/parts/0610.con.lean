set_option maxHeartbeats 4000000 in
set_option maxRecDepth 100000 in
theorem kt370_X11_first (l : Launch) (G : KG) (tag : Nat → Nat) (L : List Nat) (Fo : Nat → va_E) (ho : okT G ttC tag L Fo) (p0 : Nat) (p1 : Int32) (m0 : p0 ∈ L) (g0 : tag p0 = 26) : TMi l yX11_first cX11_first 2 (some .int) { frames := 7, cells := 0, slots := 0, locals := 184 } G ttC tag L Fo [.ref p0, .int p1] (fun r F1 => ((-2147483648) ≤ r.toInt ∧ r.toInt ≤ 2147483647) ∧ ((∀ b j : Nat, (tag b ≠ 19 ∨ j ≠ 0) → (tag b ≠ 19 ∨ j ≠ 1) → (tag b ≠ 26 ∨ j ≠ 13) → fld F1 b j = fld Fo b j) ∧ EF tag F1 Fo)) := by
  refine t_bodyi (y := yX11_first) (cd := cX11_first) (mL := 2) (rt := (some .int)) (rm := { frames := 7, cells := 0, slots := 0, locals := 184 }) (av := [.ref p0, .int p1]) (by decide) (Nat.le_of_ble_eq_true rfl) ho ?_
  intro p e s m args below meth c ls A Q hQ X hT hl
  have hx := X.1.1
  have hb := X.1.2.1
  have hl : lv_has ls 2 [(0, .ref p0), (1, .int p1)] := hl
  have rp1 := rg_all p1
  obtain ⟨F, hFo⟩ : ∃ F : Nat → va_E, F = Fo := ⟨_, rfl⟩
  rw [← hFo] at hT
  have hfr : (∀ b j : Nat, (tag b ≠ 19 ∨ j ≠ 0) → (tag b ≠ 19 ∨ j ≠ 1) → (tag b ≠ 26 ∨ j ≠ 13) → fld F b j = fld Fo b j) ∧ EF tag F Fo := by
    rw [hFo]
    exact ⟨by intros; rfl, fun _ _ _ => rfl⟩
  have K23 : ∀ (z111102 : Int32) (F : Nat → va_E) (H : Heap) (locs : List Loc) (ls : Array Slot), (1 ≤ z111102.toInt ∧ z111102.toInt ≤ 1) → TH G ttC A s tag L F H locs → ((∀ b j : Nat, (tag b ≠ 19 ∨ j ≠ 0) → (tag b ≠ 19 ∨ j ≠ 1) → (tag b ≠ 26 ∨ j ≠ 13) → fld F b j = fld Fo b j) ∧ EF tag F Fo) → fld F p0 2 = .int z111102 → lv_has ls 2 [(0, .ref p0), (1, .int p1)] → W p l e { frames := 7, cells := 0, slots := 0, locals := 184 } s m args below meth c H locs 0 0 Q (F0 m 23 ls []) := by
    intro z111102 F H locs ls rz111102 hT hfr qz111102 hl
    refine lv_aload_n hx hb dX11_first_23 rfl (lv_at hl 0 rfl) ?_
    refine lv_iconst (v := 2) hx hb dX11_first_24 (by decide) ?_
    refine t_cVi (n := 1) (C := RX11) (T := TX11) (N := 16) (As := [.int 2]) (rest := []) X hT (kt357_X11_refuse l G tag L F hT.2.2.2 p0 2 m0 g0) m0 g0 rfl rfl qw_152 qw_153 qw_154 qw_2 qw_155 ⟨rfl, by decide +kernel, by decide +kernel, by decide +kernel⟩ ⟨Nat.le_of_ble_eq_true rfl, Nat.le_of_ble_eq_true rfl⟩ hl rfl rfl (Nat.le_of_ble_eq_true rfl) dX11_first_25 ⟨Nat.le_of_ble_eq_true rfl, Nat.le_of_ble_eq_true rfl⟩ (fun z111103 F H locs hT hz111103 => ?_)
    obtain ⟨hz111103, yz111103⟩ := hz111103
    have qz111102 := (yz111103.1 _ 2 (Or.inr (by decide))).trans qz111102
    have hfr : (∀ b j : Nat, (tag b ≠ 19 ∨ j ≠ 0) → (tag b ≠ 19 ∨ j ≠ 1) → (tag b ≠ 26 ∨ j ≠ 13) → fld F b j = fld Fo b j) ∧ EF tag F Fo := ⟨fun b j n19_0 n19_1 n26_13 => (yz111103.1 b j n26_13).trans (hfr.1 b j n19_0 n19_1 n26_13), fun b j hb => (yz111103.2 b j hb).trans (hfr.2 b j hb)⟩
    exact t_iret hQ X hT (⟨rg_all _, hfr⟩) (Nat.le_of_ble_eq_true rfl) (Nat.le_of_ble_eq_true rfl) dX11_first_28
  refine lv_aload_n hx hb dX11_first_0 rfl (lv_at hl 0 rfl) ?_
  refine t_get (C := RX11) (T := TX11) (N := 16) X hT m0 g0 rfl rfl 2 (by decide) qw_150 inlX11 rfl dX11_first_1 (fun v111104 hv111104 ov111104 => ?_)
  obtain ⟨z111105, rfl, rz111105⟩ := okV_i ov111104
  refine lv_if_ne (tgt := 13) hx hb dX11_first_4 (by decide) (fun c111106 => ?_) (fun c111106 => ?_)
  · have w111107 := cv_ne (rfl : z111105.toInt = z111105.toInt) (by decide : (0 : Int32).toInt = 0) c111106
    refine lv_iload_n hx hb dX11_first_13 rfl (lv_at hl 1 rfl) ?_
    refine lv_if_lt (tgt := 23) hx hb dX11_first_14 (by decide) (fun c111108 => ?_) (fun c111108 => ?_)
    · have w111109 := cv_lt (rfl : p1.toInt = p1.toInt) (by decide : (0 : Int32).toInt = 0) c111108
      exact K23 z111105 _ _ _ _ (by omega) hT hfr hv111104 (lv_sub hl [0, 1] rfl)
    · have w111110 := cv_nlt (rfl : p1.toInt = p1.toInt) (by decide : (0 : Int32).toInt = 0) c111108
      refine lv_iload_n hx hb dX11_first_17 rfl (lv_at hl 1 rfl) ?_
      refine lv_bipush (v := 30) hx hb dX11_first_18 (by decide) ?_
      refine lv_icmp_le (tgt := 29) hx hb dX11_first_20 (by decide) (fun c111111 => ?_) (fun c111111 => ?_)
      · have w111112 := cv_le (rfl : p1.toInt = p1.toInt) (by decide : (30 : Int32).toInt = 30) c111111
        refine lv_aload_n hx hb dX11_first_29 rfl (lv_at hl 0 rfl) ?_
        refine lv_aload_n hx hb dX11_first_30 rfl (lv_at hl 0 rfl) ?_
        refine t_get (C := RX11) (T := TX11) (N := 16) X hT m0 g0 rfl rfl 9 (by decide) qw_33 inlX11 rfl dX11_first_31 (fun v111113 hv111113 ov111113 => ?_)
        obtain ⟨b111114, rfl, mb111114, gb111114⟩ := okV_r ov111113
        have gb111114 : tag b111114 = 20 := tg_of gb111114
        refine lv_aload_n hx hb dX11_first_34 rfl (lv_at hl 0 rfl) ?_
        refine t_get (C := RX11) (T := TX11) (N := 16) X hT m0 g0 rfl rfl 3 (by decide) qw_18 inlX11 rfl dX11_first_35 (fun v111115 hv111115 ov111115 => ?_)
        obtain ⟨b111116, rfl, mb111116, gb111116⟩ := okV_r ov111115
        have gb111116 : tag b111116 = 18 := tg_of gb111116
        refine lv_aload_n hx hb dX11_first_38 rfl (lv_at hl 0 rfl) ?_
        refine t_get (C := RX11) (T := TX11) (N := 16) X hT m0 g0 rfl rfl 5 (by decide) qw_23 inlX11 rfl dX11_first_39 (fun v111117 hv111117 ov111117 => ?_)
        obtain ⟨b111118, rfl, mb111118, gb111118⟩ := okV_r ov111117
        have gb111118 : tag b111118 = 19 := tg_of gb111118
        refine lv_aload_n hx hb dX11_first_42 rfl (lv_at hl 0 rfl) ?_
        refine t_get (C := RX11) (T := TX11) (N := 16) X hT m0 g0 rfl rfl 7 (by decide) qw_25 inlX11 rfl dX11_first_43 (fun v111119 hv111119 ov111119 => ?_)
        obtain ⟨b111120, rfl, mb111120, gb111120⟩ := okV_r ov111119
        have gb111120 : tag b111120 = 19 := tg_of gb111120
        refine lv_iload_n hx hb dX11_first_46 rfl (lv_at hl 1 rfl) ?_
        refine t_cVi (n := 4) (C := RX10) (T := TX10) (N := 2) (As := [.ref b111116, .ref b111118, .ref b111120, .int p1]) (rest := [.ref p0]) X hT (kt349_X10_mostSkins l G tag L F hT.2.2.2 b111114 b111116 b111118 b111120 p1 mb111114 gb111114 mb111116 gb111116 mb111118 gb111118 mb111120 gb111120 (by omega)) mb111114 gb111114 rfl rfl qw_1235 qw_1236 qw_1237 qw_32 qw_1238 ⟨rfl, by decide +kernel, by decide +kernel, by decide +kernel⟩ ⟨Nat.le_of_ble_eq_true rfl, Nat.le_of_ble_eq_true rfl⟩ hl rfl rfl (Nat.le_of_ble_eq_true rfl) dX11_first_47 ⟨Nat.le_of_ble_eq_true rfl, Nat.le_of_ble_eq_true rfl⟩ (fun z111121 F H locs hT hz111121 => ?_)
        obtain ⟨hz111121, yz111121⟩ := hz111121
        have hv111104 := (yz111121.1 _ 2 (Or.inr (by decide)) (Or.inr (by decide))).trans hv111104
        have hv111113 := (yz111121.1 _ 9 (Or.inr (by decide)) (Or.inr (by decide))).trans hv111113
        have hv111115 := (yz111121.1 _ 3 (Or.inr (by decide)) (Or.inr (by decide))).trans hv111115
        have hv111117 := (yz111121.1 _ 5 (Or.inr (by decide)) (Or.inr (by decide))).trans hv111117
        have hv111119 := (yz111121.1 _ 7 (Or.inr (by decide)) (Or.inr (by decide))).trans hv111119
        have hfr : (∀ b j : Nat, (tag b ≠ 19 ∨ j ≠ 0) → (tag b ≠ 19 ∨ j ≠ 1) → (tag b ≠ 26 ∨ j ≠ 13) → fld F b j = fld Fo b j) ∧ EF tag F Fo := ⟨fun b j n19_0 n19_1 n26_13 => (yz111121.1 b j n19_0 n19_1).trans (hfr.1 b j n19_0 n19_1 n26_13), fun b j hb => (yz111121.2 b j hb).trans (hfr.2 b j hb)⟩
        refine t_cVi (n := 1) (C := RX11) (T := TX11) (N := 16) (As := [.int z111121]) (rest := []) X hT (kt350_X11_answer l G tag L F hT.2.2.2 p0 z111121 m0 g0) m0 g0 rfl rfl qw_463 qw_464 qw_465 qw_2 qw_466 ⟨rfl, by decide +kernel, by decide +kernel, by decide +kernel⟩ ⟨Nat.le_of_ble_eq_true rfl, Nat.le_of_ble_eq_true rfl⟩ hl rfl rfl (Nat.le_of_ble_eq_true rfl) dX11_first_50 ⟨Nat.le_of_ble_eq_true rfl, Nat.le_of_ble_eq_true rfl⟩ (fun z111122 F H locs hT hz111122 => ?_)
        obtain ⟨hz111122, yz111122⟩ := hz111122
        have hv111104 := (yz111122.1 _ 2 (Or.inr (by decide))).trans hv111104
        have hv111113 := (yz111122.1 _ 9 (Or.inr (by decide))).trans hv111113
        have hv111115 := (yz111122.1 _ 3 (Or.inr (by decide))).trans hv111115
        have hv111117 := (yz111122.1 _ 5 (Or.inr (by decide))).trans hv111117
        have hv111119 := (yz111122.1 _ 7 (Or.inr (by decide))).trans hv111119
        have hfr : (∀ b j : Nat, (tag b ≠ 19 ∨ j ≠ 0) → (tag b ≠ 19 ∨ j ≠ 1) → (tag b ≠ 26 ∨ j ≠ 13) → fld F b j = fld Fo b j) ∧ EF tag F Fo := ⟨fun b j n19_0 n19_1 n26_13 => (yz111122.1 b j n26_13).trans (hfr.1 b j n19_0 n19_1 n26_13), fun b j hb => (yz111122.2 b j hb).trans (hfr.2 b j hb)⟩
        exact t_iret hQ X hT (⟨rg_all _, hfr⟩) (Nat.le_of_ble_eq_true rfl) (Nat.le_of_ble_eq_true rfl) dX11_first_53
      · have w111123 := cv_nle (rfl : p1.toInt = p1.toInt) (by decide : (30 : Int32).toInt = 30) c111111
        exact K23 z111105 _ _ _ _ (by omega) hT hfr hv111104 (lv_sub hl [0, 1] rfl)
  · have w111124 := cv_eq (rfl : z111105.toInt = z111105.toInt) (by decide : (0 : Int32).toInt = 0) c111106
    refine lv_aload_n hx hb dX11_first_7 rfl (lv_at hl 0 rfl) ?_
    refine lv_iconst (v := 1) hx hb dX11_first_8 (by decide) ?_
    refine t_cVi (n := 1) (C := RX11) (T := TX11) (N := 16) (As := [.int 1]) (rest := []) X hT (kt357_X11_refuse l G tag L F hT.2.2.2 p0 1 m0 g0) m0 g0 rfl rfl qw_152 qw_153 qw_154 qw_2 qw_155 ⟨rfl, by decide +kernel, by decide +kernel, by decide +kernel⟩ ⟨Nat.le_of_ble_eq_true rfl, Nat.le_of_ble_eq_true rfl⟩ hl rfl rfl (Nat.le_of_ble_eq_true rfl) dX11_first_9 ⟨Nat.le_of_ble_eq_true rfl, Nat.le_of_ble_eq_true rfl⟩ (fun z111125 F H locs hT hz111125 => ?_)
    obtain ⟨hz111125, yz111125⟩ := hz111125
    have hv111104 := (yz111125.1 _ 2 (Or.inr (by decide))).trans hv111104
    have hfr : (∀ b j : Nat, (tag b ≠ 19 ∨ j ≠ 0) → (tag b ≠ 19 ∨ j ≠ 1) → (tag b ≠ 26 ∨ j ≠ 13) → fld F b j = fld Fo b j) ∧ EF tag F Fo := ⟨fun b j n19_0 n19_1 n26_13 => (yz111125.1 b j n26_13).trans (hfr.1 b j n19_0 n19_1 n26_13), fun b j hb => (yz111125.2 b j hb).trans (hfr.2 b j hb)⟩
    exact t_iret hQ X hT (⟨rg_all _, hfr⟩) (Nat.le_of_ble_eq_true rfl) (Nat.le_of_ble_eq_true rfl) dX11_first_12
set_option maxHeartbeats 4000000 in
set_option maxRecDepth 100000 in
theorem kt371_X11_firstAt (l : Launch) (G : KG) (tag : Nat → Nat) (L : List Nat) (Fo : Nat → va_E) (ho : okT G ttC tag L Fo) (p0 : Nat) (p1 : Int32) (p2 : Int32) (m0 : p0 ∈ L) (g0 : tag p0 = 26) : TMi l yX11_firstAt cX11_firstAt 3 (some .int) { frames := 7, cells := 0, slots := 0, locals := 184 } G ttC tag L Fo [.ref p0, .int p1, .int p2] (fun r F1 => ((-2147483648) ≤ r.toInt ∧ r.toInt ≤ 2147483647) ∧ ((∀ b j : Nat, (tag b ≠ 19 ∨ j ≠ 0) → (tag b ≠ 19 ∨ j ≠ 1) → (tag b ≠ 26 ∨ j ≠ 13) → fld F1 b j = fld Fo b j) ∧ EF tag F1 Fo)) := by
  refine t_bodyi (y := yX11_firstAt) (cd := cX11_firstAt) (mL := 3) (rt := (some .int)) (rm := { frames := 7, cells := 0, slots := 0, locals := 184 }) (av := [.ref p0, .int p1, .int p2]) (by decide) (Nat.le_of_ble_eq_true rfl) ho ?_
  intro p e s m args below meth c ls A Q hQ X hT hl
  have hx := X.1.1
  have hb := X.1.2.1
  have hl : lv_has ls 3 [(0, .ref p0), (1, .int p1), (2, .int p2)] := hl
  have rp1 := rg_all p1
  have rp2 := rg_all p2
  obtain ⟨F, hFo⟩ : ∃ F : Nat → va_E, F = Fo := ⟨_, rfl⟩
  rw [← hFo] at hT
  have hfr : (∀ b j : Nat, (tag b ≠ 19 ∨ j ≠ 0) → (tag b ≠ 19 ∨ j ≠ 1) → (tag b ≠ 26 ∨ j ≠ 13) → fld F b j = fld Fo b j) ∧ EF tag F Fo := by
    rw [hFo]
    exact ⟨by intros; rfl, fun _ _ _ => rfl⟩
  have K24 : ∀  (F : Nat → va_E) (H : Heap) (locs : List Loc) (ls : Array Slot), (0 ≤ p2.toInt ∧ p2.toInt ≤ 3) → TH G ttC A s tag L F H locs → ((∀ b j : Nat, (tag b ≠ 19 ∨ j ≠ 0) → (tag b ≠ 19 ∨ j ≠ 1) → (tag b ≠ 26 ∨ j ≠ 13) → fld F b j = fld Fo b j) ∧ EF tag F Fo) → lv_has ls 3 [(0, .ref p0), (1, .int p1), (2, .int p2)] → W p l e { frames := 7, cells := 0, slots := 0, locals := 184 } s m args below meth c H locs 0 0 Q (F0 m 24 ls []) := by
    intro F H locs ls r9s111434 hT hfr hl
    refine lv_aload_n hx hb dX11_firstAt_24 rfl (lv_at hl 0 rfl) ?_
    refine lv_iconst (v := 2) hx hb dX11_firstAt_25 (by decide) ?_
    refine t_cVi (n := 1) (C := RX11) (T := TX11) (N := 16) (As := [.int 2]) (rest := []) X hT (kt357_X11_refuse l G tag L F hT.2.2.2 p0 2 m0 g0) m0 g0 rfl rfl qw_152 qw_153 qw_154 qw_2 qw_155 ⟨rfl, by decide +kernel, by decide +kernel, by decide +kernel⟩ ⟨Nat.le_of_ble_eq_true rfl, Nat.le_of_ble_eq_true rfl⟩ hl rfl rfl (Nat.le_of_ble_eq_true rfl) dX11_firstAt_26 ⟨Nat.le_of_ble_eq_true rfl, Nat.le_of_ble_eq_true rfl⟩ (fun z111435 F H locs hT hz111435 => ?_)
    obtain ⟨hz111435, yz111435⟩ := hz111435
    have hfr : (∀ b j : Nat, (tag b ≠ 19 ∨ j ≠ 0) → (tag b ≠ 19 ∨ j ≠ 1) → (tag b ≠ 26 ∨ j ≠ 13) → fld F b j = fld Fo b j) ∧ EF tag F Fo := ⟨fun b j n19_0 n19_1 n26_13 => (yz111435.1 b j n26_13).trans (hfr.1 b j n19_0 n19_1 n26_13), fun b j hb => (yz111435.2 b j hb).trans (hfr.2 b j hb)⟩
    exact t_iret hQ X hT (⟨rg_all _, hfr⟩) (Nat.le_of_ble_eq_true rfl) (Nat.le_of_ble_eq_true rfl) dX11_firstAt_29
  refine lv_aload_n hx hb dX11_firstAt_0 rfl (lv_at hl 0 rfl) ?_
  refine lv_iload_n hx hb dX11_firstAt_1 rfl (lv_at hl 2 rfl) ?_
  refine t_cVi (n := 1) (C := RX11) (T := TX11) (N := 16) (As := [.int p2]) (rest := []) X hT (kt355_X11_isHouse l G tag L F hT.2.2.2 p0 p2 m0 g0) m0 g0 rfl rfl qw_770 qw_771 qw_772 qw_2 qw_773 ⟨rfl, by decide +kernel, by decide +kernel, by decide +kernel⟩ ⟨Nat.le_of_ble_eq_true rfl, Nat.le_of_ble_eq_true rfl⟩ hl rfl rfl (Nat.le_of_ble_eq_true rfl) dX11_firstAt_2 ⟨Nat.le_of_ble_eq_true rfl, Nat.le_of_ble_eq_true rfl⟩ (fun z111436 F9 H locs hT hz111436 => ?_)
  obtain ⟨fz111436, hz111436⟩ := hz111436
  rw [fz111436] at hT
  obtain ⟨hz111436, iz111436⟩ := hz111436
  refine lv_if_ne (tgt := 14) hx hb dX11_firstAt_5 (by decide) (fun c111437 => ?_) (fun c111437 => ?_)
  · have w111438 := cv_ne (rfl : z111436.toInt = z111436.toInt) (by decide : (0 : Int32).toInt = 0) c111437
    have w111439 := (fun h => (iz111436 h)) (by omega)
    refine lv_iload_n hx hb dX11_firstAt_14 rfl (lv_at hl 1 rfl) ?_
    refine lv_if_lt (tgt := 24) hx hb dX11_firstAt_15 (by decide) (fun c111440 => ?_) (fun c111440 => ?_)
    · have w111441 := cv_lt (rfl : p1.toInt = p1.toInt) (by decide : (0 : Int32).toInt = 0) c111440
      exact K24  _ _ _ _ (by omega) hT hfr  (lv_sub hl [0, 1, 2] rfl)
    · have w111442 := cv_nlt (rfl : p1.toInt = p1.toInt) (by decide : (0 : Int32).toInt = 0) c111440
      refine lv_iload_n hx hb dX11_firstAt_18 rfl (lv_at hl 1 rfl) ?_
      refine lv_bipush (v := 30) hx hb dX11_firstAt_19 (by decide) ?_
      refine lv_icmp_le (tgt := 30) hx hb dX11_firstAt_21 (by decide) (fun c111443 => ?_) (fun c111443 => ?_)
      · have w111444 := cv_le (rfl : p1.toInt = p1.toInt) (by decide : (30 : Int32).toInt = 30) c111443
        refine lv_aload_n hx hb dX11_firstAt_30 rfl (lv_at hl 0 rfl) ?_
        refine t_get (C := RX11) (T := TX11) (N := 16) X hT m0 g0 rfl rfl 9 (by decide) qw_33 inlX11 rfl dX11_firstAt_31 (fun v111445 hv111445 ov111445 => ?_)
        obtain ⟨b111446, rfl, mb111446, gb111446⟩ := okV_r ov111445
        have gb111446 : tag b111446 = 20 := tg_of gb111446
        refine lv_aload_n hx hb dX11_firstAt_34 rfl (lv_at hl 0 rfl) ?_
        refine t_get (C := RX11) (T := TX11) (N := 16) X hT m0 g0 rfl rfl 3 (by decide) qw_18 inlX11 rfl dX11_firstAt_35 (fun v111447 hv111447 ov111447 => ?_)
        obtain ⟨b111448, rfl, mb111448, gb111448⟩ := okV_r ov111447
        have gb111448 : tag b111448 = 18 := tg_of gb111448
        refine lv_aload_n hx hb dX11_firstAt_38 rfl (lv_at hl 0 rfl) ?_
        refine t_get (C := RX11) (T := TX11) (N := 16) X hT m0 g0 rfl rfl 5 (by decide) qw_23 inlX11 rfl dX11_firstAt_39 (fun v111449 hv111449 ov111449 => ?_)
        obtain ⟨b111450, rfl, mb111450, gb111450⟩ := okV_r ov111449
        have gb111450 : tag b111450 = 19 := tg_of gb111450
        refine lv_aload_n hx hb dX11_firstAt_42 rfl (lv_at hl 0 rfl) ?_
        refine t_get (C := RX11) (T := TX11) (N := 16) X hT m0 g0 rfl rfl 7 (by decide) qw_25 inlX11 rfl dX11_firstAt_43 (fun v111451 hv111451 ov111451 => ?_)
        obtain ⟨b111452, rfl, mb111452, gb111452⟩ := okV_r ov111451
        have gb111452 : tag b111452 = 19 := tg_of gb111452
        refine lv_iload_n hx hb dX11_firstAt_46 rfl (lv_at hl 1 rfl) ?_
        refine t_cVi (n := 4) (C := RX10) (T := TX10) (N := 2) (As := [.ref b111448, .ref b111450, .ref b111452, .int p1]) (rest := []) X hT (kt349_X10_mostSkins l G tag L F hT.2.2.2 b111446 b111448 b111450 b111452 p1 mb111446 gb111446 mb111448 gb111448 mb111450 gb111450 mb111452 gb111452 (by omega)) mb111446 gb111446 rfl rfl qw_1235 qw_1236 qw_1237 qw_32 qw_1238 ⟨rfl, by decide +kernel, by decide +kernel, by decide +kernel⟩ ⟨Nat.le_of_ble_eq_true rfl, Nat.le_of_ble_eq_true rfl⟩ hl rfl rfl (Nat.le_of_ble_eq_true rfl) dX11_firstAt_47 ⟨Nat.le_of_ble_eq_true rfl, Nat.le_of_ble_eq_true rfl⟩ (fun z111453 F H locs hT hz111453 => ?_)
        obtain ⟨hz111453, yz111453⟩ := hz111453
        have hv111445 := (yz111453.1 _ 9 (Or.inr (by decide)) (Or.inr (by decide))).trans hv111445
        have hv111447 := (yz111453.1 _ 3 (Or.inr (by decide)) (Or.inr (by decide))).trans hv111447
        have hv111449 := (yz111453.1 _ 5 (Or.inr (by decide)) (Or.inr (by decide))).trans hv111449
        have hv111451 := (yz111453.1 _ 7 (Or.inr (by decide)) (Or.inr (by decide))).trans hv111451
        have hfr : (∀ b j : Nat, (tag b ≠ 19 ∨ j ≠ 0) → (tag b ≠ 19 ∨ j ≠ 1) → (tag b ≠ 26 ∨ j ≠ 13) → fld F b j = fld Fo b j) ∧ EF tag F Fo := ⟨fun b j n19_0 n19_1 n26_13 => (yz111453.1 b j n19_0 n19_1).trans (hfr.1 b j n19_0 n19_1 n26_13), fun b j hb => (yz111453.2 b j hb).trans (hfr.2 b j hb)⟩
        refine lv_pop hx hb dX11_firstAt_50 rfl ?_
        refine lv_aload_n hx hb dX11_firstAt_51 rfl (lv_at hl 0 rfl) ?_
        refine lv_aload_n hx hb dX11_firstAt_52 rfl (lv_at hl 0 rfl) ?_
        refine t_get (C := RX11) (T := TX11) (N := 16) X hT m0 g0 rfl rfl 9 (by decide) qw_33 inlX11 rfl dX11_firstAt_53 (fun v111454 hv111454 ov111454 => ?_)
        obtain rfl : v111454 = .ref b111446 := hv111454.symm.trans hv111445
        refine t_get (C := RX10) (T := TX10) (N := 2) X hT mb111446 gb111446 rfl rfl 1 (by decide) qw_1272 inlX10 rfl dX11_firstAt_56 (fun v111455 hv111455 ov111455 => ?_)
        obtain ⟨b111456, rfl, mb111456, gb111456⟩ := okV_r ov111455
        have gb111456 : tag b111456 = 5 := tg_of gb111456
        refine lv_iload_n hx hb dX11_firstAt_59 rfl (lv_at hl 2 rfl) ?_
        refine t_ild X hT mb111456 gb111456 rfl (by omega) dX11_firstAt_60 (fun z111457 vz111457 rz111457 => ?_)
        have rz111457 : (-2147483648) ≤ z111457.toInt ∧ z111457.toInt ≤ 2147483647 := rz111457
        refine t_cVi (n := 1) (C := RX11) (T := TX11) (N := 16) (As := [.int z111457]) (rest := []) X hT (kt350_X11_answer l G tag L F hT.2.2.2 p0 z111457 m0 g0) m0 g0 rfl rfl qw_463 qw_464 qw_465 qw_2 qw_466 ⟨rfl, by decide +kernel, by decide +kernel, by decide +kernel⟩ ⟨Nat.le_of_ble_eq_true rfl, Nat.le_of_ble_eq_true rfl⟩ hl rfl rfl (Nat.le_of_ble_eq_true rfl) dX11_firstAt_61 ⟨Nat.le_of_ble_eq_true rfl, Nat.le_of_ble_eq_true rfl⟩ (fun z111458 F H locs hT hz111458 => ?_)
        obtain ⟨hz111458, yz111458⟩ := hz111458
        have hv111445 := (yz111458.1 _ 9 (Or.inr (by decide))).trans hv111445
        have hv111447 := (yz111458.1 _ 3 (Or.inr (by decide))).trans hv111447
        have hv111449 := (yz111458.1 _ 5 (Or.inr (by decide))).trans hv111449
        have hv111451 := (yz111458.1 _ 7 (Or.inr (by decide))).trans hv111451
        have hv111455 := (yz111458.1 _ 1 (Or.inr (by decide))).trans hv111455
        have hfr : (∀ b j : Nat, (tag b ≠ 19 ∨ j ≠ 0) → (tag b ≠ 19 ∨ j ≠ 1) → (tag b ≠ 26 ∨ j ≠ 13) → fld F b j = fld Fo b j) ∧ EF tag F Fo := ⟨fun b j n19_0 n19_1 n26_13 => (yz111458.1 b j n26_13).trans (hfr.1 b j n19_0 n19_1 n26_13), fun b j hb => (yz111458.2 b j hb).trans (hfr.2 b j hb)⟩
        exact t_iret hQ X hT (⟨rg_all _, hfr⟩) (Nat.le_of_ble_eq_true rfl) (Nat.le_of_ble_eq_true rfl) dX11_firstAt_64
      · have w111459 := cv_nle (rfl : p1.toInt = p1.toInt) (by decide : (30 : Int32).toInt = 30) c111443
        exact K24  _ _ _ _ (by omega) hT hfr  (lv_sub hl [0, 1, 2] rfl)
  · have w111460 := cv_eq (rfl : z111436.toInt = z111436.toInt) (by decide : (0 : Int32).toInt = 0) c111437
    refine lv_aload_n hx hb dX11_firstAt_8 rfl (lv_at hl 0 rfl) ?_
    refine lv_iconst (v := 1) hx hb dX11_firstAt_9 (by decide) ?_
    refine t_cVi (n := 1) (C := RX11) (T := TX11) (N := 16) (As := [.int 1]) (rest := []) X hT (kt357_X11_refuse l G tag L F hT.2.2.2 p0 1 m0 g0) m0 g0 rfl rfl qw_152 qw_153 qw_154 qw_2 qw_155 ⟨rfl, by decide +kernel, by decide +kernel, by decide +kernel⟩ ⟨Nat.le_of_ble_eq_true rfl, Nat.le_of_ble_eq_true rfl⟩ hl rfl rfl (Nat.le_of_ble_eq_true rfl) dX11_firstAt_10 ⟨Nat.le_of_ble_eq_true rfl, Nat.le_of_ble_eq_true rfl⟩ (fun z111461 F H locs hT hz111461 => ?_)
    obtain ⟨hz111461, yz111461⟩ := hz111461
    have hfr : (∀ b j : Nat, (tag b ≠ 19 ∨ j ≠ 0) → (tag b ≠ 19 ∨ j ≠ 1) → (tag b ≠ 26 ∨ j ≠ 13) → fld F b j = fld Fo b j) ∧ EF tag F Fo := ⟨fun b j n19_0 n19_1 n26_13 => (yz111461.1 b j n26_13).trans (hfr.1 b j n19_0 n19_1 n26_13), fun b j hb => (yz111461.2 b j hb).trans (hfr.2 b j hb)⟩
    exact t_iret hQ X hT (⟨rg_all _, hfr⟩) (Nat.le_of_ble_eq_true rfl) (Nat.le_of_ble_eq_true rfl) dX11_firstAt_13
set_option maxHeartbeats 4000000 in
set_option maxRecDepth 100000 in
theorem kt372_X11_fits (l : Launch) (G : KG) (tag : Nat → Nat) (L : List Nat) (Fo : Nat → va_E) (ho : okT G ttC tag L Fo) (p0 : Nat) (p1 : Int32) (m0 : p0 ∈ L) (g0 : tag p0 = 26) : TMi l yX11_fits cX11_fits 2 (some .int) { frames := 3, cells := 0, slots := 0, locals := 80 } G ttC tag L Fo [.ref p0, .int p1] (fun r F1 => ((-2147483648) ≤ r.toInt ∧ r.toInt ≤ 2147483647) ∧ ((∀ b j : Nat, (tag b ≠ 26 ∨ j ≠ 13) → fld F1 b j = fld Fo b j) ∧ EF tag F1 Fo)) := by
  refine t_bodyi (y := yX11_fits) (cd := cX11_fits) (mL := 2) (rt := (some .int)) (rm := { frames := 3, cells := 0, slots := 0, locals := 80 }) (av := [.ref p0, .int p1]) (by decide) (Nat.le_of_ble_eq_true rfl) ho ?_
  intro p e s m args below meth c ls A Q hQ X hT hl
  have hx := X.1.1
  have hb := X.1.2.1
  have hl : lv_has ls 2 [(0, .ref p0), (1, .int p1)] := hl
  have rp1 := rg_all p1
  obtain ⟨F, hFo⟩ : ∃ F : Nat → va_E, F = Fo := ⟨_, rfl⟩
  rw [← hFo] at hT
  have hfr : (∀ b j : Nat, (tag b ≠ 26 ∨ j ≠ 13) → fld F b j = fld Fo b j) ∧ EF tag F Fo := by
    rw [hFo]
    exact ⟨by intros; rfl, fun _ _ _ => rfl⟩
  have K35 : ∀ (z111650 : Int32) (b111651 : Nat) (F : Nat → va_E) (H : Heap) (locs : List Loc) (ls : Array Slot), (0 ≤ z111650.toInt ∧ z111650.toInt ≤ 1) → (b111651 ∈ L) → (tag b111651 = 26) → (0 ≤ p1.toInt ∧ p1.toInt ≤ 3) → TH G ttC A s tag L F H locs → ((∀ b j : Nat, (tag b ≠ 26 ∨ j ≠ 13) → fld F b j = fld Fo b j) ∧ EF tag F Fo) → lv_has ls 2 [(0, .ref p0), (1, .int p1)] → W p l e { frames := 3, cells := 0, slots := 0, locals := 80 } s m args below meth c H locs 0 0 Q (F0 m 35 ls [.int z111650, .ref b111651]) := by
    intro z111650 b111651 F H locs ls rz111650 mb111651 gb111651 r9s111649 hT hfr hl
    refine t_cVi (n := 1) (C := RX11) (T := TX11) (N := 16) (As := [.int z111650]) (rest := []) X hT (kt350_X11_answer l G tag L F hT.2.2.2 b111651 z111650 mb111651 gb111651) mb111651 gb111651 rfl rfl qw_463 qw_464 qw_465 qw_2 qw_466 ⟨rfl, by decide +kernel, by decide +kernel, by decide +kernel⟩ ⟨Nat.le_of_ble_eq_true rfl, Nat.le_of_ble_eq_true rfl⟩ hl rfl rfl (Nat.le_of_ble_eq_true rfl) dX11_fits_35 ⟨Nat.le_of_ble_eq_true rfl, Nat.le_of_ble_eq_true rfl⟩ (fun z111652 F H locs hT hz111652 => ?_)
    obtain ⟨hz111652, yz111652⟩ := hz111652
    have hfr : (∀ b j : Nat, (tag b ≠ 26 ∨ j ≠ 13) → fld F b j = fld Fo b j) ∧ EF tag F Fo := ⟨fun b j n26_13 => (yz111652.1 b j n26_13).trans (hfr.1 b j n26_13), fun b j hb => (yz111652.2 b j hb).trans (hfr.2 b j hb)⟩
    exact t_iret hQ X hT (⟨rg_all _, hfr⟩) (Nat.le_of_ble_eq_true rfl) (Nat.le_of_ble_eq_true rfl) dX11_fits_38
  refine lv_aload_n hx hb dX11_fits_0 rfl (lv_at hl 0 rfl) ?_
  refine lv_iload_n hx hb dX11_fits_1 rfl (lv_at hl 1 rfl) ?_
  refine t_cVi (n := 1) (C := RX11) (T := TX11) (N := 16) (As := [.int p1]) (rest := []) X hT (kt355_X11_isHouse l G tag L F hT.2.2.2 p0 p1 m0 g0) m0 g0 rfl rfl qw_770 qw_771 qw_772 qw_2 qw_773 ⟨rfl, by decide +kernel, by decide +kernel, by decide +kernel⟩ ⟨Nat.le_of_ble_eq_true rfl, Nat.le_of_ble_eq_true rfl⟩ hl rfl rfl (Nat.le_of_ble_eq_true rfl) dX11_fits_2 ⟨Nat.le_of_ble_eq_true rfl, Nat.le_of_ble_eq_true rfl⟩ (fun z111653 F9 H locs hT hz111653 => ?_)
  obtain ⟨fz111653, hz111653⟩ := hz111653
  rw [fz111653] at hT
  obtain ⟨hz111653, iz111653⟩ := hz111653
  refine lv_if_ne (tgt := 14) hx hb dX11_fits_5 (by decide) (fun c111654 => ?_) (fun c111654 => ?_)
  · have w111655 := cv_ne (rfl : z111653.toInt = z111653.toInt) (by decide : (0 : Int32).toInt = 0) c111654
    have w111656 := (fun h => (iz111653 h)) (by omega)
    refine lv_aload_n hx hb dX11_fits_14 rfl (lv_at hl 0 rfl) ?_
    refine lv_aload_n hx hb dX11_fits_15 rfl (lv_at hl 0 rfl) ?_
    refine t_get (C := RX11) (T := TX11) (N := 16) X hT m0 g0 rfl rfl 3 (by decide) qw_18 inlX11 rfl dX11_fits_16 (fun v111657 hv111657 ov111657 => ?_)
    obtain ⟨b111658, rfl, mb111658, gb111658⟩ := okV_r ov111657
    have gb111658 : tag b111658 = 18 := tg_of gb111658
    refine lv_aload_n hx hb dX11_fits_19 rfl (lv_at hl 0 rfl) ?_
    refine t_get (C := RX11) (T := TX11) (N := 16) X hT m0 g0 rfl rfl 5 (by decide) qw_23 inlX11 rfl dX11_fits_20 (fun v111659 hv111659 ov111659 => ?_)
    obtain ⟨b111660, rfl, mb111660, gb111660⟩ := okV_r ov111659
    have gb111660 : tag b111660 = 19 := tg_of gb111660
    refine lv_iload_n hx hb dX11_fits_23 rfl (lv_at hl 1 rfl) ?_
    refine t_cSi (n := 3) (As := [.ref b111658, .ref b111660, .int p1]) (rest := [.ref p0]) X hT (kt325_X6_isFit l G tag L F hT.2.2.2 b111658 b111660 p1 mb111658 gb111658 mb111660 gb111660 (by omega)) qw_904 qw_403 qw_380 qw_404 ⟨by decide +kernel, by decide +kernel, by decide +kernel⟩ ⟨Nat.le_of_ble_eq_true rfl, Nat.le_of_ble_eq_true rfl⟩ hl rfl rfl (Nat.le_of_ble_eq_true rfl) dX11_fits_24 ⟨Nat.le_of_ble_eq_true rfl, Nat.le_of_ble_eq_true rfl⟩ (fun z111661 F9 H locs hT hz111661 => ?_)
    obtain ⟨fz111661, hz111661⟩ := hz111661
    rw [fz111661] at hT
    refine lv_if_eq (tgt := 34) hx hb dX11_fits_27 (by decide) (fun c111662 => ?_) (fun c111662 => ?_)
    · have w111663 := cv_eq (rfl : z111661.toInt = z111661.toInt) (by decide : (0 : Int32).toInt = 0) c111662
      refine lv_iconst (v := 0) hx hb dX11_fits_34 (by decide) ?_
      exact K35 0 p0 _ _ _ _ (by decide) m0 g0 (by omega) hT hfr  (lv_sub hl [0, 1] rfl)
    · have w111664 := cv_ne (rfl : z111661.toInt = z111661.toInt) (by decide : (0 : Int32).toInt = 0) c111662
      refine lv_iconst (v := 1) hx hb dX11_fits_30 (by decide) ?_
      refine lv_goto (tgt := 35) hx hb dX11_fits_31 (by decide) ?_
      exact K35 1 p0 _ _ _ _ (by decide) m0 g0 (by omega) hT hfr  (lv_sub hl [0, 1] rfl)
  · have w111665 := cv_eq (rfl : z111653.toInt = z111653.toInt) (by decide : (0 : Int32).toInt = 0) c111654
    refine lv_aload_n hx hb dX11_fits_8 rfl (lv_at hl 0 rfl) ?_
    refine lv_iconst (v := 1) hx hb dX11_fits_9 (by decide) ?_
    refine t_cVi (n := 1) (C := RX11) (T := TX11) (N := 16) (As := [.int 1]) (rest := []) X hT (kt357_X11_refuse l G tag L F hT.2.2.2 p0 1 m0 g0) m0 g0 rfl rfl qw_152 qw_153 qw_154 qw_2 qw_155 ⟨rfl, by decide +kernel, by decide +kernel, by decide +kernel⟩ ⟨Nat.le_of_ble_eq_true rfl, Nat.le_of_ble_eq_true rfl⟩ hl rfl rfl (Nat.le_of_ble_eq_true rfl) dX11_fits_10 ⟨Nat.le_of_ble_eq_true rfl, Nat.le_of_ble_eq_true rfl⟩ (fun z111666 F H locs hT hz111666 => ?_)
    obtain ⟨hz111666, yz111666⟩ := hz111666
    have hfr : (∀ b j : Nat, (tag b ≠ 26 ∨ j ≠ 13) → fld F b j = fld Fo b j) ∧ EF tag F Fo := ⟨fun b j n26_13 => (yz111666.1 b j n26_13).trans (hfr.1 b j n26_13), fun b j hb => (yz111666.2 b j hb).trans (hfr.2 b j hb)⟩
    exact t_iret hQ X hT (⟨rg_all _, hfr⟩) (Nat.le_of_ble_eq_true rfl) (Nat.le_of_ble_eq_true rfl) dX11_fits_13
set_option maxHeartbeats 4000000 in
set_option maxRecDepth 100000 in
theorem kt373_X11_free (l : Launch) (G : KG) (tag : Nat → Nat) (L : List Nat) (Fo : Nat → va_E) (ho : okT G ttC tag L Fo) (p0 : Nat) (m0 : p0 ∈ L) (g0 : tag p0 = 26) : TMi l yX11_free cX11_free 4 (some .int) { frames := 2, cells := 0, slots := 0, locals := 49 } G ttC tag L Fo [.ref p0] (fun r F1 => ((-2147483648) ≤ r.toInt ∧ r.toInt ≤ 2147483647) ∧ ((∀ b j : Nat, (tag b ≠ 26 ∨ j ≠ 13) → fld F1 b j = fld Fo b j) ∧ EF tag F1 Fo)) := by
  refine t_bodyi (y := yX11_free) (cd := cX11_free) (mL := 4) (rt := (some .int)) (rm := { frames := 2, cells := 0, slots := 0, locals := 49 }) (av := [.ref p0]) (by decide) (Nat.le_of_ble_eq_true rfl) ho ?_
  intro p e s m args below meth c ls A Q hQ X hT hl
  have hx := X.1.1
  have hb := X.1.2.1
  have hl : lv_has ls 4 [(0, .ref p0)] := hl
  obtain ⟨F, hFo⟩ : ∃ F : Nat → va_E, F = Fo := ⟨_, rfl⟩
  rw [← hFo] at hT
  have hfr : (∀ b j : Nat, (tag b ≠ 26 ∨ j ≠ 13) → fld F b j = fld Fo b j) ∧ EF tag F Fo := by
    rw [hFo]
    exact ⟨by intros; rfl, fun _ _ _ => rfl⟩
  have K17 : ∀ (n : Nat) (z112888 : Int32) (z112889 : Int32) (z112890 : Int32) (F : Nat → va_E) (H : Heap) (locs : List Loc) (ls : Array Slot), (12 - z112889.toInt < (n : Int)) → (0 ≤ z112889.toInt ∧ z112889.toInt ≤ 12) → (1 ≤ z112890.toInt ∧ z112890.toInt ≤ 1) → TH G ttC A s tag L F H locs → ((∀ b j : Nat, (tag b ≠ 26 ∨ j ≠ 13) → fld F b j = fld Fo b j) ∧ EF tag F Fo) → fld F p0 2 = .int z112890 → lv_has ls 4 [(0, .ref p0), (1, .int z112888), (2, .int z112889)] → W p l e { frames := 2, cells := 0, slots := 0, locals := 49 } s m args below meth c H locs 0 0 Q (F0 m 17 ls []) := by
    intro n
    induction n with
    | zero =>
      intro z112888 z112889 z112890 F H locs ls hn rz112889 rz112890 hT hfr qz112890 hl
      have rz112888 := rg_all z112888
      exfalso
      omega
    | succ n ih17 =>
      intro z112888 z112889 z112890 F H locs ls hn rz112889 rz112890 hT hfr qz112890 hl
      have rz112888 := rg_all z112888
      have K30 : ∀ (n : Nat) (z112891 : Int32) (z112893 : Int32) (z112894 : Int32) (F : Nat → va_E) (H : Heap) (locs : List Loc) (ls : Array Slot), (12 - z112893.toInt < (n : Int)) → (0 ≤ z112893.toInt ∧ z112893.toInt ≤ 12) → (1 ≤ z112894.toInt ∧ z112894.toInt ≤ 1) → (0 ≤ z112889.toInt ∧ z112889.toInt ≤ 11) → TH G ttC A s tag L F H locs → ((∀ b j : Nat, (tag b ≠ 26 ∨ j ≠ 13) → fld F b j = fld Fo b j) ∧ EF tag F Fo) → fld F p0 2 = .int z112894 → lv_has ls 4 [(0, .ref p0), (1, .int z112891), (2, .int z112889), (3, .int z112893)] → W p l e { frames := 2, cells := 0, slots := 0, locals := 49 } s m args below meth c H locs 0 0 Q (F0 m 30 ls []) := by
        intro n
        induction n with
        | zero =>
          intro z112891 z112893 z112894 F H locs ls hn rz112893 rz112894 r9s112892 hT hfr qz112894 hl
          have rz112891 := rg_all z112891
          exfalso
          omega
        | succ n ih30 =>
          intro z112891 z112893 z112894 F H locs ls hn rz112893 rz112894 r9s112892 hT hfr qz112894 hl
          have rz112891 := rg_all z112891
          have K60 : ∀ (z112895 : Int32) (z112897 : Int32) (F : Nat → va_E) (H : Heap) (locs : List Loc) (ls : Array Slot), (1 ≤ z112897.toInt ∧ z112897.toInt ≤ 1) → (0 ≤ z112893.toInt ∧ z112893.toInt ≤ 11) → TH G ttC A s tag L F H locs → ((∀ b j : Nat, (tag b ≠ 26 ∨ j ≠ 13) → fld F b j = fld Fo b j) ∧ EF tag F Fo) → fld F p0 2 = .int z112897 → lv_has ls 4 [(0, .ref p0), (1, .int z112895), (2, .int z112889), (3, .int z112893)] → W p l e { frames := 2, cells := 0, slots := 0, locals := 49 } s m args below meth c H locs 0 0 Q (F0 m 60 ls []) := by
            intro z112895 z112897 F H locs ls rz112897 r9s112896 hT hfr qz112897 hl
            have rz112895 := rg_all z112895
            obtain ⟨z112898, ez112898⟩ : ∃ y : Int32, y = z112893 + 1 := ⟨_, rfl⟩
            have hz112898 : z112898.toInt = z112893.toInt + 1 := ar_add ez112898 rfl (by decide : (1 : Int32).toInt = 1) (by omega) (by omega)
            refine lv_iinc (v := z112898) (lv' := [(3, .int z112898), (0, .ref p0), (1, .int z112895), (2, .int z112889)]) hx hb dX11_free_60 hl (k := 3) rfl (by rw [ez112898]; rfl) (by decide) rfl (fun ls hl => ?_)
            refine lv_goto (tgt := 30) hx hb dX11_free_63 (by decide) ?_
            exact ih30 z112895 z112898 z112897 _ _ _ _ (by omega) (by omega) (by omega) (by omega) hT hfr qz112897 (lv_sub hl [1, 2, 3, 0] rfl)
          refine lv_iload_n hx hb dX11_free_30 rfl (lv_at hl 3 rfl) ?_
          refine lv_aload_n hx hb dX11_free_31 rfl (lv_at hl 0 rfl) ?_
          refine t_get (C := RX11) (T := TX11) (N := 16) X hT m0 g0 rfl rfl 3 (by decide) qw_18 inlX11 rfl dX11_free_32 (fun v112899 hv112899 ov112899 => ?_)
          obtain ⟨b112900, rfl, mb112900, gb112900⟩ := okV_r ov112899
          have gb112900 : tag b112900 = 18 := tg_of gb112900
          refine t_get (C := RX1) (T := TX1) (N := 20) X hT mb112900 gb112900 rfl rfl 0 (by decide) qw_728 inlX1 rfl dX11_free_35 (fun v112901 hv112901 ov112901 => ?_)
          obtain ⟨z112902, rfl, rz112902⟩ := okV_i ov112901
          refine lv_icmp_ge (tgt := 66) hx hb dX11_free_38 (by decide) (fun c112903 => ?_) (fun c112903 => ?_)
          · have w112904 := cv_le (rfl : z112902.toInt = z112902.toInt) (rfl : z112893.toInt = z112893.toInt) c112903
            obtain ⟨z112905, ez112905⟩ : ∃ y : Int32, y = z112889 + 1 := ⟨_, rfl⟩
            have hz112905 : z112905.toInt = z112889.toInt + 1 := ar_add ez112905 rfl (by decide : (1 : Int32).toInt = 1) (by omega) (by omega)
            refine lv_iinc (v := z112905) (lv' := [(2, .int z112905), (0, .ref p0), (1, .int z112891), (3, .int z112893)]) hx hb dX11_free_66 hl (k := 2) rfl (by rw [ez112905]; rfl) (by decide) rfl (fun ls hl => ?_)
            refine lv_goto (tgt := 17) hx hb dX11_free_69 (by decide) ?_
            exact ih17 z112891 z112905 z112894 _ _ _ _ (by omega) (by omega) (by omega) hT hfr qz112894 (lv_sub hl [1, 2, 0] rfl)
          · have w112906 := cv_nle (rfl : z112902.toInt = z112902.toInt) (rfl : z112893.toInt = z112893.toInt) c112903
            refine lv_aload_n hx hb dX11_free_41 rfl (lv_at hl 0 rfl) ?_
            refine t_get (C := RX11) (T := TX11) (N := 16) X hT m0 g0 rfl rfl 3 (by decide) qw_18 inlX11 rfl dX11_free_42 (fun v112907 hv112907 ov112907 => ?_)
            obtain rfl : v112907 = .ref b112900 := hv112907.symm.trans hv112899
            refine lv_aload_n hx hb dX11_free_45 rfl (lv_at hl 0 rfl) ?_
            refine t_get (C := RX11) (T := TX11) (N := 16) X hT m0 g0 rfl rfl 5 (by decide) qw_23 inlX11 rfl dX11_free_46 (fun v112908 hv112908 ov112908 => ?_)
            obtain ⟨b112909, rfl, mb112909, gb112909⟩ := okV_r ov112908
            have gb112909 : tag b112909 = 19 := tg_of gb112909
            refine lv_iload_n hx hb dX11_free_49 rfl (lv_at hl 3 rfl) ?_
            refine lv_iload_n hx hb dX11_free_50 rfl (lv_at hl 2 rfl) ?_
            refine t_cSi (n := 4) (As := [.ref b112900, .ref b112909, .int z112893, .int z112889]) (rest := []) X hT (kt323_X6_isFree l G tag L F hT.2.2.2 b112900 b112909 z112893 z112889 mb112900 gb112900 mb112909 gb112909) qw_755 qw_379 qw_380 qw_381 ⟨by decide +kernel, by decide +kernel, by decide +kernel⟩ ⟨Nat.le_of_ble_eq_true rfl, Nat.le_of_ble_eq_true rfl⟩ hl rfl rfl (Nat.le_of_ble_eq_true rfl) dX11_free_51 ⟨Nat.le_of_ble_eq_true rfl, Nat.le_of_ble_eq_true rfl⟩ (fun z112910 F9 H locs hT hz112910 => ?_)
            obtain ⟨fz112910, hz112910⟩ := hz112910
            rw [fz112910] at hT
            refine lv_if_eq (tgt := 60) hx hb dX11_free_54 (by decide) (fun c112911 => ?_) (fun c112911 => ?_)
            · have w112912 := cv_eq (rfl : z112910.toInt = z112910.toInt) (by decide : (0 : Int32).toInt = 0) c112911
              exact K60 z112891 z112894 _ _ _ _ (by omega) (by omega) hT hfr qz112894 (lv_sub hl [0, 1, 2, 3] rfl)
            · have w112913 := cv_ne (rfl : z112910.toInt = z112910.toInt) (by decide : (0 : Int32).toInt = 0) c112911
              obtain ⟨z112914, ez112914⟩ : ∃ y : Int32, y = z112891 + 1 := ⟨_, rfl⟩
              have rz112914 := rg_all z112914
              refine lv_iinc (v := z112914) (lv' := [(1, .int z112914), (0, .ref p0), (2, .int z112889), (3, .int z112893)]) hx hb dX11_free_57 hl (k := 1) rfl (by rw [ez112914]; rfl) (by decide) rfl (fun ls hl => ?_)
              exact K60 z112914 z112894 _ _ _ _ (by omega) (by omega) hT hfr qz112894 (lv_sub hl [1, 0, 2, 3] rfl)
      refine lv_iload_n hx hb dX11_free_17 rfl (lv_at hl 2 rfl) ?_
      refine lv_aload_n hx hb dX11_free_18 rfl (lv_at hl 0 rfl) ?_
      refine t_get (C := RX11) (T := TX11) (N := 16) X hT m0 g0 rfl rfl 3 (by decide) qw_18 inlX11 rfl dX11_free_19 (fun v112915 hv112915 ov112915 => ?_)
      obtain ⟨b112916, rfl, mb112916, gb112916⟩ := okV_r ov112915
      have gb112916 : tag b112916 = 18 := tg_of gb112916
      refine t_get (C := RX1) (T := TX1) (N := 20) X hT mb112916 gb112916 rfl rfl 1 (by decide) qw_727 inlX1 rfl dX11_free_22 (fun v112917 hv112917 ov112917 => ?_)
      obtain ⟨z112918, rfl, rz112918⟩ := okV_i ov112917
      refine lv_icmp_ge (tgt := 72) hx hb dX11_free_25 (by decide) (fun c112919 => ?_) (fun c112919 => ?_)
      · have w112920 := cv_le (rfl : z112918.toInt = z112918.toInt) (rfl : z112889.toInt = z112889.toInt) c112919
        refine lv_aload_n hx hb dX11_free_72 rfl (lv_at hl 0 rfl) ?_
        refine lv_iload_n hx hb dX11_free_73 rfl (lv_at hl 1 rfl) ?_
        refine t_cVi (n := 1) (C := RX11) (T := TX11) (N := 16) (As := [.int z112888]) (rest := []) X hT (kt350_X11_answer l G tag L F hT.2.2.2 p0 z112888 m0 g0) m0 g0 rfl rfl qw_463 qw_464 qw_465 qw_2 qw_466 ⟨rfl, by decide +kernel, by decide +kernel, by decide +kernel⟩ ⟨Nat.le_of_ble_eq_true rfl, Nat.le_of_ble_eq_true rfl⟩ hl rfl rfl (Nat.le_of_ble_eq_true rfl) dX11_free_74 ⟨Nat.le_of_ble_eq_true rfl, Nat.le_of_ble_eq_true rfl⟩ (fun z112921 F H locs hT hz112921 => ?_)
        obtain ⟨hz112921, yz112921⟩ := hz112921
        have qz112890 := (yz112921.1 _ 2 (Or.inr (by decide))).trans qz112890
        have hv112915 := (yz112921.1 _ 3 (Or.inr (by decide))).trans hv112915
        have hv112917 := (yz112921.1 _ 1 (Or.inr (by decide))).trans hv112917
        have hfr : (∀ b j : Nat, (tag b ≠ 26 ∨ j ≠ 13) → fld F b j = fld Fo b j) ∧ EF tag F Fo := ⟨fun b j n26_13 => (yz112921.1 b j n26_13).trans (hfr.1 b j n26_13), fun b j hb => (yz112921.2 b j hb).trans (hfr.2 b j hb)⟩
        exact t_iret hQ X hT (⟨rg_all _, hfr⟩) (Nat.le_of_ble_eq_true rfl) (Nat.le_of_ble_eq_true rfl) dX11_free_77
      · have w112922 := cv_nle (rfl : z112918.toInt = z112918.toInt) (rfl : z112889.toInt = z112889.toInt) c112919
        refine lv_iconst (v := 0) hx hb dX11_free_28 (by decide) ?_
        refine lv_istore_n (lv' := [(3, .int 0), (0, .ref p0), (1, .int z112888), (2, .int z112889)]) hx hb dX11_free_29 rfl hl (by decide) rfl (fun ls hl => ?_)
        have kk112923 : (0 : Int32).toInt = 0 := by decide
        exact K30 13 z112888 0 z112890 _ _ _ _ (by omega) (by decide) (by omega) (by omega) hT hfr qz112890 (lv_sub hl [1, 2, 3, 0] rfl)
  refine lv_aload_n hx hb dX11_free_0 rfl (lv_at hl 0 rfl) ?_
  refine t_get (C := RX11) (T := TX11) (N := 16) X hT m0 g0 rfl rfl 2 (by decide) qw_150 inlX11 rfl dX11_free_1 (fun v112924 hv112924 ov112924 => ?_)
  obtain ⟨z112925, rfl, rz112925⟩ := okV_i ov112924
  refine lv_if_ne (tgt := 13) hx hb dX11_free_4 (by decide) (fun c112926 => ?_) (fun c112926 => ?_)
  · have w112927 := cv_ne (rfl : z112925.toInt = z112925.toInt) (by decide : (0 : Int32).toInt = 0) c112926
    refine lv_iconst (v := 0) hx hb dX11_free_13 (by decide) ?_
    refine lv_istore_n (lv' := [(1, .int 0), (0, .ref p0)]) hx hb dX11_free_14 rfl hl (by decide) rfl (fun ls hl => ?_)
    refine lv_iconst (v := 0) hx hb dX11_free_15 (by decide) ?_
    refine lv_istore_n (lv' := [(2, .int 0), (1, .int 0), (0, .ref p0)]) hx hb dX11_free_16 rfl hl (by decide) rfl (fun ls hl => ?_)
    have kk112928 : (0 : Int32).toInt = 0 := by decide
    have kk112929 : (0 : Int32).toInt = 0 := by decide
    exact K17 13 0 0 z112925 _ _ _ _ (by omega) (by decide) (by omega) hT hfr hv112924 (lv_sub hl [2, 1, 0] rfl)
  · have w112930 := cv_eq (rfl : z112925.toInt = z112925.toInt) (by decide : (0 : Int32).toInt = 0) c112926
    refine lv_aload_n hx hb dX11_free_7 rfl (lv_at hl 0 rfl) ?_
    refine lv_iconst (v := 1) hx hb dX11_free_8 (by decide) ?_
    refine t_cVi (n := 1) (C := RX11) (T := TX11) (N := 16) (As := [.int 1]) (rest := []) X hT (kt357_X11_refuse l G tag L F hT.2.2.2 p0 1 m0 g0) m0 g0 rfl rfl qw_152 qw_153 qw_154 qw_2 qw_155 ⟨rfl, by decide +kernel, by decide +kernel, by decide +kernel⟩ ⟨Nat.le_of_ble_eq_true rfl, Nat.le_of_ble_eq_true rfl⟩ hl rfl rfl (Nat.le_of_ble_eq_true rfl) dX11_free_9 ⟨Nat.le_of_ble_eq_true rfl, Nat.le_of_ble_eq_true rfl⟩ (fun z112931 F H locs hT hz112931 => ?_)
    obtain ⟨hz112931, yz112931⟩ := hz112931
    have hv112924 := (yz112931.1 _ 2 (Or.inr (by decide))).trans hv112924
    have hfr : (∀ b j : Nat, (tag b ≠ 26 ∨ j ≠ 13) → fld F b j = fld Fo b j) ∧ EF tag F Fo := ⟨fun b j n26_13 => (yz112931.1 b j n26_13).trans (hfr.1 b j n26_13), fun b j hb => (yz112931.2 b j hb).trans (hfr.2 b j hb)⟩
    exact t_iret hQ X hT (⟨rg_all _, hfr⟩) (Nat.le_of_ble_eq_true rfl) (Nat.le_of_ble_eq_true rfl) dX11_free_12
set_option maxHeartbeats 4000000 in
set_option maxRecDepth 100000 in
theorem kt374_X11_give (l : Launch) (G : KG) (tag : Nat → Nat) (L : List Nat) (Fo : Nat → va_E) (ho : okT G ttC tag L Fo) (p0 : Nat) (p1 : Int32) (p2 : Int32) (p3 : Int32) (m0 : p0 ∈ L) (g0 : tag p0 = 26) : TMi l yX11_give cX11_give 4 (some .boolean) { frames := 3, cells := 0, slots := 0, locals := 66 } G ttC tag L Fo [.ref p0, .int p1, .int p2, .int p3] (fun r F1 => (0 ≤ r.toInt ∧ r.toInt ≤ 1) ∧ ((∀ b j : Nat, (tag b ≠ 19 ∨ j ≠ 0) → (tag b ≠ 19 ∨ j ≠ 1) → (tag b ≠ 23 ∨ j ≠ 2) → (tag b ≠ 23 ∨ j ≠ 3) → (tag b ≠ 26 ∨ j ≠ 13) → fld F1 b j = fld Fo b j) ∧ EF tag F1 Fo)) := by
  refine t_bodyi (y := yX11_give) (cd := cX11_give) (mL := 4) (rt := (some .boolean)) (rm := { frames := 3, cells := 0, slots := 0, locals := 66 }) (av := [.ref p0, .int p1, .int p2, .int p3]) (by decide) (Nat.le_of_ble_eq_true rfl) ho ?_
  intro p e s m args below meth c ls A Q hQ X hT hl
  have hx := X.1.1
  have hb := X.1.2.1
  have hl : lv_has ls 4 [(0, .ref p0), (1, .int p1), (2, .int p2), (3, .int p3)] := hl
  have rp1 := rg_all p1
  have rp2 := rg_all p2
  have rp3 := rg_all p3
  obtain ⟨F, hFo⟩ : ∃ F : Nat → va_E, F = Fo := ⟨_, rfl⟩
  rw [← hFo] at hT
  have hfr : (∀ b j : Nat, (tag b ≠ 19 ∨ j ≠ 0) → (tag b ≠ 19 ∨ j ≠ 1) → (tag b ≠ 23 ∨ j ≠ 2) → (tag b ≠ 23 ∨ j ≠ 3) → (tag b ≠ 26 ∨ j ≠ 13) → fld F b j = fld Fo b j) ∧ EF tag F Fo := by
    rw [hFo]
    exact ⟨by intros; rfl, fun _ _ _ => rfl⟩
  have K21 : ∀  (F : Nat → va_E) (H : Heap) (locs : List Loc) (ls : Array Slot), TH G ttC A s tag L F H locs → ((∀ b j : Nat, (tag b ≠ 19 ∨ j ≠ 0) → (tag b ≠ 19 ∨ j ≠ 1) → (tag b ≠ 23 ∨ j ≠ 2) → (tag b ≠ 23 ∨ j ≠ 3) → (tag b ≠ 26 ∨ j ≠ 13) → fld F b j = fld Fo b j) ∧ EF tag F Fo) → lv_has ls 4 [(0, .ref p0), (1, .int p1), (2, .int p2), (3, .int p3)] → W p l e { frames := 3, cells := 0, slots := 0, locals := 66 } s m args below meth c H locs 0 0 Q (F0 m 21 ls []) := by
    intro F H locs ls hT hfr hl
    refine lv_aload_n hx hb dX11_give_21 rfl (lv_at hl 0 rfl) ?_
    refine lv_iconst (v := 1) hx hb dX11_give_22 (by decide) ?_
    refine t_cVi (n := 1) (C := RX11) (T := TX11) (N := 16) (As := [.int 1]) (rest := []) X hT (kt352_X11_no l G tag L F hT.2.2.2 p0 1 m0 g0) m0 g0 rfl rfl qw_1454 qw_1455 qw_1456 qw_2 qw_1457 ⟨rfl, by decide +kernel, by decide +kernel, by decide +kernel⟩ ⟨Nat.le_of_ble_eq_true rfl, Nat.le_of_ble_eq_true rfl⟩ hl rfl rfl (Nat.le_of_ble_eq_true rfl) dX11_give_23 ⟨Nat.le_of_ble_eq_true rfl, Nat.le_of_ble_eq_true rfl⟩ (fun z113482 F H locs hT hz113482 => ?_)
    obtain ⟨hz113482, yz113482⟩ := hz113482
    have hfr : (∀ b j : Nat, (tag b ≠ 19 ∨ j ≠ 0) → (tag b ≠ 19 ∨ j ≠ 1) → (tag b ≠ 23 ∨ j ≠ 2) → (tag b ≠ 23 ∨ j ≠ 3) → (tag b ≠ 26 ∨ j ≠ 13) → fld F b j = fld Fo b j) ∧ EF tag F Fo := ⟨fun b j n19_0 n19_1 n23_2 n23_3 n26_13 => (yz113482.1 b j n26_13).trans (hfr.1 b j n19_0 n19_1 n23_2 n23_3 n26_13), fun b j hb => (yz113482.2 b j hb).trans (hfr.2 b j hb)⟩
    exact t_zret hQ X hT (nar_z (by omega)) (⟨(by omega), hfr⟩) (Nat.le_of_ble_eq_true rfl) (Nat.le_of_ble_eq_true rfl) dX11_give_26
  have K62 : ∀  (F : Nat → va_E) (H : Heap) (locs : List Loc) (ls : Array Slot), (0 ≤ p1.toInt ∧ p1.toInt ≤ 3) → (0 ≤ p2.toInt ∧ p2.toInt ≤ 3) → TH G ttC A s tag L F H locs → ((∀ b j : Nat, (tag b ≠ 19 ∨ j ≠ 0) → (tag b ≠ 19 ∨ j ≠ 1) → (tag b ≠ 23 ∨ j ≠ 2) → (tag b ≠ 23 ∨ j ≠ 3) → (tag b ≠ 26 ∨ j ≠ 13) → fld F b j = fld Fo b j) ∧ EF tag F Fo) → lv_has ls 4 [(0, .ref p0), (1, .int p1), (2, .int p2), (3, .int p3)] → W p l e { frames := 3, cells := 0, slots := 0, locals := 66 } s m args below meth c H locs 0 0 Q (F0 m 62 ls []) := by
    intro F H locs ls r9s113483 r9s113484 hT hfr hl
    refine lv_aload_n hx hb dX11_give_62 rfl (lv_at hl 0 rfl) ?_
    refine lv_iconst (v := 2) hx hb dX11_give_63 (by decide) ?_
    refine t_cVi (n := 1) (C := RX11) (T := TX11) (N := 16) (As := [.int 2]) (rest := []) X hT (kt352_X11_no l G tag L F hT.2.2.2 p0 2 m0 g0) m0 g0 rfl rfl qw_1454 qw_1455 qw_1456 qw_2 qw_1457 ⟨rfl, by decide +kernel, by decide +kernel, by decide +kernel⟩ ⟨Nat.le_of_ble_eq_true rfl, Nat.le_of_ble_eq_true rfl⟩ hl rfl rfl (Nat.le_of_ble_eq_true rfl) dX11_give_64 ⟨Nat.le_of_ble_eq_true rfl, Nat.le_of_ble_eq_true rfl⟩ (fun z113485 F H locs hT hz113485 => ?_)
    obtain ⟨hz113485, yz113485⟩ := hz113485
    have hfr : (∀ b j : Nat, (tag b ≠ 19 ∨ j ≠ 0) → (tag b ≠ 19 ∨ j ≠ 1) → (tag b ≠ 23 ∨ j ≠ 2) → (tag b ≠ 23 ∨ j ≠ 3) → (tag b ≠ 26 ∨ j ≠ 13) → fld F b j = fld Fo b j) ∧ EF tag F Fo := ⟨fun b j n19_0 n19_1 n23_2 n23_3 n26_13 => (yz113485.1 b j n26_13).trans (hfr.1 b j n19_0 n19_1 n23_2 n23_3 n26_13), fun b j hb => (yz113485.2 b j hb).trans (hfr.2 b j hb)⟩
    exact t_zret hQ X hT (nar_z (by omega)) (⟨(by omega), hfr⟩) (Nat.le_of_ble_eq_true rfl) (Nat.le_of_ble_eq_true rfl) dX11_give_67
  refine lv_aload_n hx hb dX11_give_0 rfl (lv_at hl 0 rfl) ?_
  refine lv_iload_n hx hb dX11_give_1 rfl (lv_at hl 1 rfl) ?_
  refine t_cVi (n := 1) (C := RX11) (T := TX11) (N := 16) (As := [.int p1]) (rest := []) X hT (kt355_X11_isHouse l G tag L F hT.2.2.2 p0 p1 m0 g0) m0 g0 rfl rfl qw_770 qw_771 qw_772 qw_2 qw_773 ⟨rfl, by decide +kernel, by decide +kernel, by decide +kernel⟩ ⟨Nat.le_of_ble_eq_true rfl, Nat.le_of_ble_eq_true rfl⟩ hl rfl rfl (Nat.le_of_ble_eq_true rfl) dX11_give_2 ⟨Nat.le_of_ble_eq_true rfl, Nat.le_of_ble_eq_true rfl⟩ (fun z113486 F9 H locs hT hz113486 => ?_)
  obtain ⟨fz113486, hz113486⟩ := hz113486
  rw [fz113486] at hT
  obtain ⟨hz113486, iz113486⟩ := hz113486
  refine lv_if_eq (tgt := 21) hx hb dX11_give_5 (by decide) (fun c113487 => ?_) (fun c113487 => ?_)
  · have w113488 := cv_eq (rfl : z113486.toInt = z113486.toInt) (by decide : (0 : Int32).toInt = 0) c113487
    exact K21  _ _ _ _  hT hfr  (lv_sub hl [0, 1, 2, 3] rfl)
  · have w113489 := cv_ne (rfl : z113486.toInt = z113486.toInt) (by decide : (0 : Int32).toInt = 0) c113487
    have w113490 := (fun h => (iz113486 h)) (by omega)
    refine lv_aload_n hx hb dX11_give_8 rfl (lv_at hl 0 rfl) ?_
    refine lv_iload_n hx hb dX11_give_9 rfl (lv_at hl 2 rfl) ?_
    refine t_cVi (n := 1) (C := RX11) (T := TX11) (N := 16) (As := [.int p2]) (rest := []) X hT (kt355_X11_isHouse l G tag L F hT.2.2.2 p0 p2 m0 g0) m0 g0 rfl rfl qw_770 qw_771 qw_772 qw_2 qw_773 ⟨rfl, by decide +kernel, by decide +kernel, by decide +kernel⟩ ⟨Nat.le_of_ble_eq_true rfl, Nat.le_of_ble_eq_true rfl⟩ hl rfl rfl (Nat.le_of_ble_eq_true rfl) dX11_give_10 ⟨Nat.le_of_ble_eq_true rfl, Nat.le_of_ble_eq_true rfl⟩ (fun z113491 F9 H locs hT hz113491 => ?_)
    obtain ⟨fz113491, hz113491⟩ := hz113491
    rw [fz113491] at hT
    obtain ⟨hz113491, iz113491⟩ := hz113491
    refine lv_if_eq (tgt := 21) hx hb dX11_give_13 (by decide) (fun c113492 => ?_) (fun c113492 => ?_)
    · have w113493 := cv_eq (rfl : z113491.toInt = z113491.toInt) (by decide : (0 : Int32).toInt = 0) c113492
      exact K21  _ _ _ _  hT hfr  (lv_sub hl [0, 1, 2, 3] rfl)
    · have w113494 := cv_ne (rfl : z113491.toInt = z113491.toInt) (by decide : (0 : Int32).toInt = 0) c113492
      have w113495 := (fun h => (iz113491 h)) (by omega)
      refine lv_iload_n hx hb dX11_give_16 rfl (lv_at hl 1 rfl) ?_
      refine lv_iload_n hx hb dX11_give_17 rfl (lv_at hl 2 rfl) ?_
      refine lv_icmp_ne (tgt := 27) hx hb dX11_give_18 (by decide) (fun c113496 => ?_) (fun c113496 => ?_)
      · have w113497 := cv_ne (rfl : p1.toInt = p1.toInt) (rfl : p2.toInt = p2.toInt) c113496
        refine lv_iload_n hx hb dX11_give_27 rfl (lv_at hl 3 rfl) ?_
        refine lv_iconst (v := 1) hx hb dX11_give_28 (by decide) ?_
        refine lv_icmp_lt (tgt := 62) hx hb dX11_give_29 (by decide) (fun c113498 => ?_) (fun c113498 => ?_)
        · have w113499 := cv_lt (rfl : p3.toInt = p3.toInt) (by decide : (1 : Int32).toInt = 1) c113498
          exact K62  _ _ _ _ (by omega) (by omega) hT hfr  (lv_sub hl [0, 1, 2, 3] rfl)
        · have w113500 := cv_nlt (rfl : p3.toInt = p3.toInt) (by decide : (1 : Int32).toInt = 1) c113498
          refine lv_iload_n hx hb dX11_give_32 rfl (lv_at hl 3 rfl) ?_
          refine lv_aload_n hx hb dX11_give_33 rfl (lv_at hl 0 rfl) ?_
          refine t_get (C := RX11) (T := TX11) (N := 16) X hT m0 g0 rfl rfl 5 (by decide) qw_23 inlX11 rfl dX11_give_34 (fun v113501 hv113501 ov113501 => ?_)
          obtain ⟨b113502, rfl, mb113502, gb113502⟩ := okV_r ov113501
          have gb113502 : tag b113502 = 19 := tg_of gb113502
          refine t_get (C := RX7) (T := TX7) (N := 7) X hT mb113502 gb113502 rfl rfl 4 (by decide) qw_768 inlX7 rfl dX11_give_37 (fun v113503 hv113503 ov113503 => ?_)
          obtain ⟨b113504, rfl, mb113504, gb113504⟩ := okV_r ov113503
          have gb113504 : tag b113504 = 5 := tg_of gb113504
          refine lv_iload_n hx hb dX11_give_40 rfl (lv_at hl 1 rfl) ?_
          refine t_ild X hT mb113504 gb113504 rfl (by omega) dX11_give_41 (fun z113505 vz113505 rz113505 => ?_)
          have rz113505 : (-2147483648) ≤ z113505.toInt ∧ z113505.toInt ≤ 2147483647 := rz113505
          refine lv_icmp_gt (tgt := 62) hx hb dX11_give_42 (by decide) (fun c113506 => ?_) (fun c113506 => ?_)
          · have w113507 := cv_lt (rfl : z113505.toInt = z113505.toInt) (rfl : p3.toInt = p3.toInt) c113506
            exact K62  _ _ _ _ (by omega) (by omega) hT hfr  (lv_sub hl [0, 1, 2, 3] rfl)
          · have w113508 := cv_nlt (rfl : z113505.toInt = z113505.toInt) (rfl : p3.toInt = p3.toInt) c113506
            refine lv_aload_n hx hb dX11_give_45 rfl (lv_at hl 0 rfl) ?_
            refine t_get (C := RX11) (T := TX11) (N := 16) X hT m0 g0 rfl rfl 5 (by decide) qw_23 inlX11 rfl dX11_give_46 (fun v113509 hv113509 ov113509 => ?_)
            obtain rfl : v113509 = .ref b113502 := hv113509.symm.trans hv113501
            refine t_get (C := RX7) (T := TX7) (N := 7) X hT mb113502 gb113502 rfl rfl 4 (by decide) qw_768 inlX7 rfl dX11_give_49 (fun v113510 hv113510 ov113510 => ?_)
            obtain rfl : v113510 = .ref b113504 := hv113510.symm.trans hv113503
            refine lv_iload_n hx hb dX11_give_52 rfl (lv_at hl 2 rfl) ?_
            refine t_ild X hT mb113504 gb113504 rfl (by omega) dX11_give_53 (fun z113511 vz113511 rz113511 => ?_)
            have rz113511 : (-2147483648) ≤ z113511.toInt ∧ z113511.toInt ≤ 2147483647 := rz113511
            refine lv_iload_n hx hb dX11_give_54 rfl (lv_at hl 3 rfl) ?_
            refine lv_iadd hx hb dX11_give_55 ?_
            refine lv_topi (fun z113512 ez113512 => ?_)
            have rz113512 := rg_all z113512
            refine lv_sipush (v := 999) hx hb dX11_give_56 (by decide) ?_
            refine lv_icmp_le (tgt := 68) hx hb dX11_give_59 (by decide) (fun c113513 => ?_) (fun c113513 => ?_)
            · have w113514 := cv_le (rfl : z113512.toInt = z113512.toInt) (by decide : (999 : Int32).toInt = 999) c113513
              refine lv_aload_n hx hb dX11_give_68 rfl (lv_at hl 0 rfl) ?_
              refine t_get (C := RX11) (T := TX11) (N := 16) X hT m0 g0 rfl rfl 12 (by decide) qw_45 inlX11 rfl dX11_give_69 (fun v113515 hv113515 ov113515 => ?_)
              obtain ⟨b113516, rfl, mb113516, gb113516⟩ := okV_r ov113515
              have gb113516 : tag b113516 = 23 := tg_of gb113516
              refine lv_aload_n hx hb dX11_give_72 rfl (lv_at hl 0 rfl) ?_
              refine t_get (C := RX11) (T := TX11) (N := 16) X hT m0 g0 rfl rfl 5 (by decide) qw_23 inlX11 rfl dX11_give_73 (fun v113517 hv113517 ov113517 => ?_)
              obtain rfl : v113517 = .ref b113502 := hv113517.symm.trans hv113501
              refine t_cVv (n := 1) (C := RX2) (T := TX2) (N := 5) (As := [.ref b113502]) (rest := []) X hT (kt360_X2_keep l G tag L F hT.2.2.2 b113516 b113502 mb113516 gb113516 mb113502 gb113502) mb113516 gb113516 rfl rfl qw_1427 qw_1428 qw_1429 qw_44 qw_1430 ⟨rfl, by decide +kernel, by decide +kernel, by decide +kernel⟩ ⟨Nat.le_of_ble_eq_true rfl, Nat.le_of_ble_eq_true rfl⟩ hl rfl rfl (Nat.le_of_ble_eq_true rfl) dX11_give_76 ⟨Nat.le_of_ble_eq_true rfl, Nat.le_of_ble_eq_true rfl⟩ (fun F H locs hT hz113518 => ?_)
              have yz113518 := hz113518
              have hv113501 := (yz113518.1 _ 5 (Or.inr (by decide)) (Or.inr (by decide)) (Or.inr (by decide)) (Or.inr (by decide))).trans hv113501
              have hv113503 := (yz113518.1 _ 4 (Or.inr (by decide)) (Or.inr (by decide)) (Or.inr (by decide)) (Or.inr (by decide))).trans hv113503
              have hv113515 := (yz113518.1 _ 12 (Or.inr (by decide)) (Or.inr (by decide)) (Or.inr (by decide)) (Or.inr (by decide))).trans hv113515
              have hfr : (∀ b j : Nat, (tag b ≠ 19 ∨ j ≠ 0) → (tag b ≠ 19 ∨ j ≠ 1) → (tag b ≠ 23 ∨ j ≠ 2) → (tag b ≠ 23 ∨ j ≠ 3) → (tag b ≠ 26 ∨ j ≠ 13) → fld F b j = fld Fo b j) ∧ EF tag F Fo := ⟨fun b j n19_0 n19_1 n23_2 n23_3 n26_13 => (yz113518.1 b j n19_0 n19_1 n23_2 n23_3).trans (hfr.1 b j n19_0 n19_1 n23_2 n23_3 n26_13), fun b j hb => (yz113518.2 b j hb).trans (hfr.2 b j hb)⟩
              refine lv_aload_n hx hb dX11_give_79 rfl (lv_at hl 0 rfl) ?_
              refine t_get (C := RX11) (T := TX11) (N := 16) X hT m0 g0 rfl rfl 5 (by decide) qw_23 inlX11 rfl dX11_give_80 (fun v113519 hv113519 ov113519 => ?_)
              obtain rfl : v113519 = .ref b113502 := hv113519.symm.trans hv113501
              refine t_get (C := RX7) (T := TX7) (N := 7) X hT mb113502 gb113502 rfl rfl 4 (by decide) qw_768 inlX7 rfl dX11_give_83 (fun v113520 hv113520 ov113520 => ?_)
              obtain rfl : v113520 = .ref b113504 := hv113520.symm.trans hv113503
              refine lv_iload_n hx hb dX11_give_86 rfl (lv_at hl 1 rfl) ?_
              refine lv_dup2_11 hx hb dX11_give_87 rfl rfl ?_
              refine t_ild X hT mb113504 gb113504 rfl (by omega) dX11_give_88 (fun z113521 vz113521 rz113521 => ?_)
              have rz113521 : (-2147483648) ≤ z113521.toInt ∧ z113521.toInt ≤ 2147483647 := rz113521
              refine lv_iload_n hx hb dX11_give_89 rfl (lv_at hl 3 rfl) ?_
              refine lv_isub hx hb dX11_give_90 ?_
              refine lv_topi (fun z113522 ez113522 => ?_)
              have rz113522 := rg_all z113522
              refine t_ist X hT mb113504 gb113504 rfl (by omega) (show (-2147483648) ≤ (z113522 : Int32).toInt ∧ (z113522 : Int32).toInt ≤ 2147483647 from (by omega)) dX11_give_91 (fun F H locs hT v113523 h1v113523 h2v113523 => ?_)
              have hv113501 := (h2v113523 _ _).trans hv113501
              have hv113503 := (h2v113523 _ _).trans hv113503
              have hv113515 := (h2v113523 _ _).trans hv113515
              have hfr : (∀ b j : Nat, (tag b ≠ 19 ∨ j ≠ 0) → (tag b ≠ 19 ∨ j ≠ 1) → (tag b ≠ 23 ∨ j ≠ 2) → (tag b ≠ 23 ∨ j ≠ 3) → (tag b ≠ 26 ∨ j ≠ 13) → fld F b j = fld Fo b j) ∧ EF tag F Fo := ⟨fun b j n19_0 n19_1 n23_2 n23_3 n26_13 => (h2v113523 b j).trans (hfr.1 b j n19_0 n19_1 n23_2 n23_3 n26_13), fun b j hb => (h1v113523 b j (Or.inl (ns_ne hb gb113504 (by decide)))).trans (hfr.2 b j hb)⟩
              refine lv_aload_n hx hb dX11_give_92 rfl (lv_at hl 0 rfl) ?_
              refine t_get (C := RX11) (T := TX11) (N := 16) X hT m0 g0 rfl rfl 5 (by decide) qw_23 inlX11 rfl dX11_give_93 (fun v113524 hv113524 ov113524 => ?_)
              obtain rfl : v113524 = .ref b113502 := hv113524.symm.trans hv113501
              refine t_get (C := RX7) (T := TX7) (N := 7) X hT mb113502 gb113502 rfl rfl 4 (by decide) qw_768 inlX7 rfl dX11_give_96 (fun v113525 hv113525 ov113525 => ?_)
              obtain rfl : v113525 = .ref b113504 := hv113525.symm.trans hv113503
              refine lv_iload_n hx hb dX11_give_99 rfl (lv_at hl 2 rfl) ?_
              refine lv_dup2_11 hx hb dX11_give_100 rfl rfl ?_
              refine t_ild X hT mb113504 gb113504 rfl (by omega) dX11_give_101 (fun z113526 vz113526 rz113526 => ?_)
              have rz113526 : (-2147483648) ≤ z113526.toInt ∧ z113526.toInt ≤ 2147483647 := rz113526
              refine lv_iload_n hx hb dX11_give_102 rfl (lv_at hl 3 rfl) ?_
              refine lv_iadd hx hb dX11_give_103 ?_
              refine lv_topi (fun z113527 ez113527 => ?_)
              have rz113527 := rg_all z113527
              refine t_ist X hT mb113504 gb113504 rfl (by omega) (show (-2147483648) ≤ (z113527 : Int32).toInt ∧ (z113527 : Int32).toInt ≤ 2147483647 from (by omega)) dX11_give_104 (fun F H locs hT v113528 h1v113528 h2v113528 => ?_)
              have hv113501 := (h2v113528 _ _).trans hv113501
              have hv113503 := (h2v113528 _ _).trans hv113503
              have hv113515 := (h2v113528 _ _).trans hv113515
              have hfr : (∀ b j : Nat, (tag b ≠ 19 ∨ j ≠ 0) → (tag b ≠ 19 ∨ j ≠ 1) → (tag b ≠ 23 ∨ j ≠ 2) → (tag b ≠ 23 ∨ j ≠ 3) → (tag b ≠ 26 ∨ j ≠ 13) → fld F b j = fld Fo b j) ∧ EF tag F Fo := ⟨fun b j n19_0 n19_1 n23_2 n23_3 n26_13 => (h2v113528 b j).trans (hfr.1 b j n19_0 n19_1 n23_2 n23_3 n26_13), fun b j hb => (h1v113528 b j (Or.inl (ns_ne hb gb113504 (by decide)))).trans (hfr.2 b j hb)⟩
              refine lv_aload_n hx hb dX11_give_105 rfl (lv_at hl 0 rfl) ?_
              refine t_cVi (n := 0) (C := RX11) (T := TX11) (N := 16) (As := []) (rest := []) X hT (kt353_X11_yes l G tag L F hT.2.2.2 p0 m0 g0) m0 g0 rfl rfl qw_1460 qw_1461 qw_1462 qw_2 qw_1463 ⟨rfl, by decide +kernel, by decide +kernel, by decide +kernel⟩ ⟨Nat.le_of_ble_eq_true rfl, Nat.le_of_ble_eq_true rfl⟩ hl rfl rfl (Nat.le_of_ble_eq_true rfl) dX11_give_106 ⟨Nat.le_of_ble_eq_true rfl, Nat.le_of_ble_eq_true rfl⟩ (fun z113529 F H locs hT hz113529 => ?_)
              obtain ⟨hz113529, yz113529⟩ := hz113529
              have hv113501 := (yz113529.1 _ 5 (Or.inr (by decide))).trans hv113501
              have hv113503 := (yz113529.1 _ 4 (Or.inr (by decide))).trans hv113503
              have hv113515 := (yz113529.1 _ 12 (Or.inr (by decide))).trans hv113515
              have hfr : (∀ b j : Nat, (tag b ≠ 19 ∨ j ≠ 0) → (tag b ≠ 19 ∨ j ≠ 1) → (tag b ≠ 23 ∨ j ≠ 2) → (tag b ≠ 23 ∨ j ≠ 3) → (tag b ≠ 26 ∨ j ≠ 13) → fld F b j = fld Fo b j) ∧ EF tag F Fo := ⟨fun b j n19_0 n19_1 n23_2 n23_3 n26_13 => (yz113529.1 b j n26_13).trans (hfr.1 b j n19_0 n19_1 n23_2 n23_3 n26_13), fun b j hb => (yz113529.2 b j hb).trans (hfr.2 b j hb)⟩
              exact t_zret hQ X hT (nar_z (by omega)) (⟨(by omega), hfr⟩) (Nat.le_of_ble_eq_true rfl) (Nat.le_of_ble_eq_true rfl) dX11_give_109
            · have w113530 := cv_nle (rfl : z113512.toInt = z113512.toInt) (by decide : (999 : Int32).toInt = 999) c113513
              exact K62  _ _ _ _ (by omega) (by omega) hT hfr  (lv_sub hl [0, 1, 2, 3] rfl)
      · have w113531 := cv_eq (rfl : p1.toInt = p1.toInt) (rfl : p2.toInt = p2.toInt) c113496
        exact K21  _ _ _ _  hT hfr  (lv_sub hl [0, 1, 2, 3] rfl)
set_option maxHeartbeats 4000000 in
set_option maxRecDepth 100000 in
theorem kt375_X11_goTo (l : Launch) (G : KG) (tag : Nat → Nat) (L : List Nat) (Fo : Nat → va_E) (ho : okT G ttC tag L Fo) (p0 : Nat) (p1 : Int32) (m0 : p0 ∈ L) (g0 : tag p0 = 26) (h1 : 0 ≤ p1.toInt ∧ p1.toInt ≤ 60) : TMv l yX11_goTo cX11_goTo 3 { frames := 6, cells := 0, slots := 0, locals := 157 } G ttC tag L Fo [.ref p0, .int p1] (fun F1 => ((∀ b j : Nat, (tag b ≠ 19 ∨ j ≠ 0) → (tag b ≠ 19 ∨ j ≠ 1) → fld F1 b j = fld Fo b j) ∧ EF tag F1 Fo)) := by
  refine t_bodyv (y := yX11_goTo) (cd := cX11_goTo) (mL := 3) (rm := { frames := 6, cells := 0, slots := 0, locals := 157 }) (av := [.ref p0, .int p1]) (by decide) (Nat.le_of_ble_eq_true rfl) ho ?_
  intro p e s m args below meth c ls A Q hQ X hT hl
  have hx := X.1.1
  have hb := X.1.2.1
  have hl : lv_has ls 3 [(0, .ref p0), (1, .int p1)] := hl
  obtain ⟨F, hFo⟩ : ∃ F : Nat → va_E, F = Fo := ⟨_, rfl⟩
  rw [← hFo] at hT
  have hfr : (∀ b j : Nat, (tag b ≠ 19 ∨ j ≠ 0) → (tag b ≠ 19 ∨ j ≠ 1) → fld F b j = fld Fo b j) ∧ EF tag F Fo := by
    rw [hFo]
    exact ⟨by intros; rfl, fun _ _ _ => rfl⟩
  have K13 : ∀ (n : Nat) (z113847 : Int32) (F : Nat → va_E) (H : Heap) (locs : List Loc) (ls : Array Slot), (60 - z113847.toInt < (n : Int)) → (0 ≤ z113847.toInt ∧ z113847.toInt ≤ 60) → TH G ttC A s tag L F H locs → ((∀ b j : Nat, (tag b ≠ 19 ∨ j ≠ 0) → (tag b ≠ 19 ∨ j ≠ 1) → fld F b j = fld Fo b j) ∧ EF tag F Fo) → lv_has ls 3 [(0, .ref p0), (1, .int p1), (2, .int z113847)] → W p l e { frames := 6, cells := 0, slots := 0, locals := 157 } s m args below meth c H locs 0 0 Q (F0 m 13 ls []) := by
    intro n
    induction n with
    | zero =>
      intro z113847 F H locs ls hn rz113847 hT hfr hl
      exfalso
      omega
    | succ n ih13 =>
      intro z113847 F H locs ls hn rz113847 hT hfr hl
      refine lv_iload_n hx hb dX11_goTo_13 rfl (lv_at hl 2 rfl) ?_
      refine lv_iload_n hx hb dX11_goTo_14 rfl (lv_at hl 1 rfl) ?_
      refine lv_icmp_ge (tgt := 38) hx hb dX11_goTo_15 (by decide) (fun c113848 => ?_) (fun c113848 => ?_)
      · have w113849 := cv_le (rfl : p1.toInt = p1.toInt) (rfl : z113847.toInt = z113847.toInt) c113848
        exact t_vret hQ X hT hfr (Nat.le_of_ble_eq_true rfl) (Nat.le_of_ble_eq_true rfl) dX11_goTo_38
      · have w113850 := cv_nle (rfl : p1.toInt = p1.toInt) (rfl : z113847.toInt = z113847.toInt) c113848
        refine lv_aload_n hx hb dX11_goTo_18 rfl (lv_at hl 0 rfl) ?_
        refine t_get (C := RX11) (T := TX11) (N := 16) X hT m0 g0 rfl rfl 3 (by decide) qw_18 inlX11 rfl dX11_goTo_19 (fun v113851 hv113851 ov113851 => ?_)
        obtain ⟨b113852, rfl, mb113852, gb113852⟩ := okV_r ov113851
        have gb113852 : tag b113852 = 18 := tg_of gb113852
        refine lv_aload_n hx hb dX11_goTo_22 rfl (lv_at hl 0 rfl) ?_
        refine t_get (C := RX11) (T := TX11) (N := 16) X hT m0 g0 rfl rfl 7 (by decide) qw_25 inlX11 rfl dX11_goTo_23 (fun v113853 hv113853 ov113853 => ?_)
        obtain ⟨b113854, rfl, mb113854, gb113854⟩ := okV_r ov113853
        have gb113854 : tag b113854 = 19 := tg_of gb113854
        refine t_gets X hT X.2.2.2.1.2.1.2.2.2 qw_1096 dX11_goTo_26 ?_
        refine t_cSv (n := 3) (As := [.ref b113852, .ref b113854, .ref (G.2 13)]) (rest := []) X hT (kt365_X10_pass l G tag L F hT.2.2.2 b113852 b113854 mb113852 gb113852 mb113854 gb113854) qw_1097 qw_1098 qw_32 qw_1099 ⟨by decide +kernel, by decide +kernel, by decide +kernel⟩ ⟨Nat.le_of_ble_eq_true rfl, Nat.le_of_ble_eq_true rfl⟩ hl rfl rfl (Nat.le_of_ble_eq_true rfl) dX11_goTo_29 ⟨Nat.le_of_ble_eq_true rfl, Nat.le_of_ble_eq_true rfl⟩ (fun F H locs hT hz113855 => ?_)
        have yz113855 := hz113855
        have hv113851 := (yz113855.1 _ 3 (Or.inr (by decide)) (Or.inr (by decide))).trans hv113851
        have hv113853 := (yz113855.1 _ 7 (Or.inr (by decide)) (Or.inr (by decide))).trans hv113853
        have hfr : (∀ b j : Nat, (tag b ≠ 19 ∨ j ≠ 0) → (tag b ≠ 19 ∨ j ≠ 1) → fld F b j = fld Fo b j) ∧ EF tag F Fo := ⟨fun b j n19_0 n19_1 => (yz113855.1 b j n19_0 n19_1).trans (hfr.1 b j n19_0 n19_1), fun b j hb => (yz113855.2 b j hb).trans (hfr.2 b j hb)⟩
        obtain ⟨z113856, ez113856⟩ : ∃ y : Int32, y = z113847 + 1 := ⟨_, rfl⟩
        have hz113856 : z113856.toInt = z113847.toInt + 1 := ar_add ez113856 rfl (by decide : (1 : Int32).toInt = 1) (by omega) (by omega)
        refine lv_iinc (v := z113856) (lv' := [(2, .int z113856), (0, .ref p0), (1, .int p1)]) hx hb dX11_goTo_32 hl (k := 2) rfl (by rw [ez113856]; rfl) (by decide) rfl (fun ls hl => ?_)
        refine lv_goto (tgt := 13) hx hb dX11_goTo_35 (by decide) ?_
        exact ih13 z113856 _ _ _ _ (by omega) (by omega) hT hfr  (lv_sub hl [1, 2, 0] rfl)
  refine lv_aload_n hx hb dX11_goTo_0 rfl (lv_at hl 0 rfl) ?_
  refine t_get (C := RX11) (T := TX11) (N := 16) X hT m0 g0 rfl rfl 7 (by decide) qw_25 inlX11 rfl dX11_goTo_1 (fun v113857 hv113857 ov113857 => ?_)
  obtain ⟨b113858, rfl, mb113858, gb113858⟩ := okV_r ov113857
  have gb113858 : tag b113858 = 19 := tg_of gb113858
  refine lv_aload_n hx hb dX11_goTo_4 rfl (lv_at hl 0 rfl) ?_
  refine t_get (C := RX11) (T := TX11) (N := 16) X hT m0 g0 rfl rfl 5 (by decide) qw_23 inlX11 rfl dX11_goTo_5 (fun v113859 hv113859 ov113859 => ?_)
  obtain ⟨b113860, rfl, mb113860, gb113860⟩ := okV_r ov113859
  have gb113860 : tag b113860 = 19 := tg_of gb113860
  refine t_cVv (n := 1) (C := RX7) (T := TX7) (N := 7) (As := [.ref b113860]) (rest := []) X hT (kt343_X7_copyFrom l G tag L F hT.2.2.2 b113858 b113860 mb113858 gb113858 mb113860 gb113860) mb113858 gb113858 rfl rfl qw_449 qw_450 qw_451 qw_22 qw_452 ⟨rfl, by decide +kernel, by decide +kernel, by decide +kernel⟩ ⟨Nat.le_of_ble_eq_true rfl, Nat.le_of_ble_eq_true rfl⟩ hl rfl rfl (Nat.le_of_ble_eq_true rfl) dX11_goTo_8 ⟨Nat.le_of_ble_eq_true rfl, Nat.le_of_ble_eq_true rfl⟩ (fun F H locs hT hz113861 => ?_)
  have yz113861 := hz113861
  have hv113857 := (yz113861.1 _ 7 (Or.inr (by decide)) (Or.inr (by decide))).trans hv113857
  have hv113859 := (yz113861.1 _ 5 (Or.inr (by decide)) (Or.inr (by decide))).trans hv113859
  have hfr : (∀ b j : Nat, (tag b ≠ 19 ∨ j ≠ 0) → (tag b ≠ 19 ∨ j ≠ 1) → fld F b j = fld Fo b j) ∧ EF tag F Fo := ⟨fun b j n19_0 n19_1 => (yz113861.1 b j n19_0 n19_1).trans (hfr.1 b j n19_0 n19_1), fun b j hb => (yz113861.2 b j hb).trans (hfr.2 b j hb)⟩
  refine lv_iconst (v := 0) hx hb dX11_goTo_11 (by decide) ?_
  refine lv_istore_n (lv' := [(2, .int 0), (0, .ref p0), (1, .int p1)]) hx hb dX11_goTo_12 rfl hl (by decide) rfl (fun ls hl => ?_)
  have kk113862 : (0 : Int32).toInt = 0 := by decide
  exact K13 61 0 _ _ _ _ (by omega) (by decide) hT hfr  (lv_sub hl [1, 2, 0] rfl)
