set_option maxHeartbeats 4000000 in
set_option maxRecDepth 100000 in
theorem kt68_X11_costs (l : Launch) (G : KG) (tag : Nat → Nat) (L : List Nat) (Fo : Nat → va_E) (ho : okT G ttC tag L Fo) (p0 : Nat) (p1 : Int32) (p2 : Int32) (m0 : p0 ∈ L) (g0 : tag p0 = 26) : TMi l yX11_costs cX11_costs 3 (some .int) { frames := 2, cells := 0, slots := 0, locals := 46 } G ttC tag L Fo [.ref p0, .int p1, .int p2] (fun r F1 => ((-2147483648) ≤ r.toInt ∧ r.toInt ≤ 2147483647) ∧ ((∀ b j : Nat, (tag b ≠ 26 ∨ j ≠ 13) → fld F1 b j = fld Fo b j) ∧ EF tag F1 Fo)) := by
  refine t_bodyi (y := yX11_costs) (cd := cX11_costs) (mL := 3) (rt := (some .int)) (rm := { frames := 2, cells := 0, slots := 0, locals := 46 }) (av := [.ref p0, .int p1, .int p2]) (by decide) (Nat.le_of_ble_eq_true rfl) ho ?_
  intro p e s m args below meth c ls A Q hQ X hT hl
  have hx := X.1.1
  have hb := X.1.2.1
  have hl : lv_has ls 3 [(0, .ref p0), (1, .int p1), (2, .int p2)] := hl
  have rp1 := rg_all p1
  have rp2 := rg_all p2
  obtain ⟨F, hFo⟩ : ∃ F : Nat → va_E, F = Fo := ⟨_, rfl⟩
  rw [← hFo] at hT
  have hfr : (∀ b j : Nat, (tag b ≠ 26 ∨ j ≠ 13) → fld F b j = fld Fo b j) ∧ EF tag F Fo := by
    rw [hFo]
    exact ⟨by intros; rfl, fun _ _ _ => rfl⟩
  have K16 : ∀  (F : Nat → va_E) (H : Heap) (locs : List Loc) (ls : Array Slot), TH G ttC A s tag L F H locs → ((∀ b j : Nat, (tag b ≠ 26 ∨ j ≠ 13) → fld F b j = fld Fo b j) ∧ EF tag F Fo) → lv_has ls 3 [(0, .ref p0), (1, .int p1), (2, .int p2)] → W p l e { frames := 2, cells := 0, slots := 0, locals := 46 } s m args below meth c H locs 0 0 Q (F0 m 16 ls []) := by
    intro F H locs ls hT hfr hl
    refine lv_aload_n hx hb dX11_costs_16 rfl (lv_at hl 0 rfl) ?_
    refine lv_iconst (v := 1) hx hb dX11_costs_17 (by decide) ?_
    refine t_cVi (n := 1) (C := RX11) (T := TX11) (N := 16) (As := [.int 1]) (rest := []) X hT (kt63_X11_refuse l G tag L F hT.2.2.2 p0 1 m0 g0) m0 g0 rfl rfl qw_152 qw_153 qw_154 qw_2 qw_155 ⟨rfl, by decide +kernel, by decide +kernel, by decide +kernel⟩ ⟨Nat.le_of_ble_eq_true rfl, Nat.le_of_ble_eq_true rfl⟩ hl rfl rfl (Nat.le_of_ble_eq_true rfl) dX11_costs_18 ⟨Nat.le_of_ble_eq_true rfl, Nat.le_of_ble_eq_true rfl⟩ (fun z22437 F H locs hT hz22437 => ?_)
    obtain ⟨hz22437, yz22437⟩ := hz22437
    have hfr : (∀ b j : Nat, (tag b ≠ 26 ∨ j ≠ 13) → fld F b j = fld Fo b j) ∧ EF tag F Fo := ⟨fun b j n26_13 => (yz22437.1 b j n26_13).trans (hfr.1 b j n26_13), fun b j hb => (yz22437.2 b j hb).trans (hfr.2 b j hb)⟩
    exact t_iret hQ X hT (⟨rg_all _, hfr⟩) (Nat.le_of_ble_eq_true rfl) (Nat.le_of_ble_eq_true rfl) dX11_costs_21
  refine lv_aload_n hx hb dX11_costs_0 rfl (lv_at hl 0 rfl) ?_
  refine lv_iload_n hx hb dX11_costs_1 rfl (lv_at hl 1 rfl) ?_
  refine t_cVi (n := 1) (C := RX11) (T := TX11) (N := 16) (As := [.int p1]) (rest := []) X hT (kt61_X11_isHouse l G tag L F hT.2.2.2 p0 p1 m0 g0) m0 g0 rfl rfl qw_770 qw_771 qw_772 qw_2 qw_773 ⟨rfl, by decide +kernel, by decide +kernel, by decide +kernel⟩ ⟨Nat.le_of_ble_eq_true rfl, Nat.le_of_ble_eq_true rfl⟩ hl rfl rfl (Nat.le_of_ble_eq_true rfl) dX11_costs_2 ⟨Nat.le_of_ble_eq_true rfl, Nat.le_of_ble_eq_true rfl⟩ (fun z22438 F9 H locs hT hz22438 => ?_)
  obtain ⟨fz22438, hz22438⟩ := hz22438
  rw [fz22438] at hT
  obtain ⟨hz22438, iz22438⟩ := hz22438
  refine lv_if_eq (tgt := 16) hx hb dX11_costs_5 (by decide) (fun c22439 => ?_) (fun c22439 => ?_)
  · have w22440 := cv_eq (rfl : z22438.toInt = z22438.toInt) (by decide : (0 : Int32).toInt = 0) c22439
    exact K16  _ _ _ _  hT hfr  (lv_sub hl [0, 1, 2] rfl)
  · have w22441 := cv_ne (rfl : z22438.toInt = z22438.toInt) (by decide : (0 : Int32).toInt = 0) c22439
    have w22442 := (fun h => (iz22438 h)) (by omega)
    refine lv_aload_n hx hb dX11_costs_8 rfl (lv_at hl 0 rfl) ?_
    refine lv_iload_n hx hb dX11_costs_9 rfl (lv_at hl 2 rfl) ?_
    refine t_cVi (n := 1) (C := RX11) (T := TX11) (N := 16) (As := [.int p2]) (rest := []) X hT (kt65_X11_isStone l G tag L F hT.2.2.2 p0 p2 m0 g0) m0 g0 rfl rfl qw_954 qw_955 qw_956 qw_2 qw_957 ⟨rfl, by decide +kernel, by decide +kernel, by decide +kernel⟩ ⟨Nat.le_of_ble_eq_true rfl, Nat.le_of_ble_eq_true rfl⟩ hl rfl rfl (Nat.le_of_ble_eq_true rfl) dX11_costs_10 ⟨Nat.le_of_ble_eq_true rfl, Nat.le_of_ble_eq_true rfl⟩ (fun z22443 F9 H locs hT hz22443 => ?_)
    obtain ⟨fz22443, hz22443⟩ := hz22443
    rw [fz22443] at hT
    refine lv_if_ne (tgt := 22) hx hb dX11_costs_13 (by decide) (fun c22444 => ?_) (fun c22444 => ?_)
    · have w22445 := cv_ne (rfl : z22443.toInt = z22443.toInt) (by decide : (0 : Int32).toInt = 0) c22444
      refine lv_aload_n hx hb dX11_costs_22 rfl (lv_at hl 0 rfl) ?_
      refine t_get (C := RX11) (T := TX11) (N := 16) X hT m0 g0 rfl rfl 5 (by decide) qw_23 inlX11 rfl dX11_costs_23 (fun v22446 hv22446 ov22446 => ?_)
      obtain ⟨b22447, rfl, mb22447, gb22447⟩ := okV_r ov22446
      have gb22447 : tag b22447 = 19 := tg_of gb22447
      refine t_get (C := RX7) (T := TX7) (N := 7) X hT mb22447 gb22447 rfl rfl 2 (by decide) qw_766 inlX7 rfl dX11_costs_26 (fun v22448 hv22448 ov22448 => ?_)
      obtain ⟨b22449, rfl, mb22449, gb22449⟩ := okV_r ov22448
      have gb22449 : tag b22449 = 8 := tg_of gb22449
      refine lv_iload_n hx hb dX11_costs_29 rfl (lv_at hl 1 rfl) ?_
      refine t_ild X hT mb22449 gb22449 rfl (by omega) dX11_costs_30 (fun z22450 vz22450 rz22450 => ?_)
      have rz22450 : 0 ≤ z22450.toInt ∧ z22450.toInt ≤ 6 := rz22450
      refine lv_bipush (v := 6) hx hb dX11_costs_31 (by decide) ?_
      refine lv_icmp_lt (tgt := 42) hx hb dX11_costs_33 (by decide) (fun c22451 => ?_) (fun c22451 => ?_)
      · have w22452 := cv_lt (rfl : z22450.toInt = z22450.toInt) (by decide : (6 : Int32).toInt = 6) c22451
        refine lv_aload_n hx hb dX11_costs_42 rfl (lv_at hl 0 rfl) ?_
        refine lv_aload_n hx hb dX11_costs_43 rfl (lv_at hl 0 rfl) ?_
        refine t_get (C := RX11) (T := TX11) (N := 16) X hT m0 g0 rfl rfl 3 (by decide) qw_18 inlX11 rfl dX11_costs_44 (fun v22453 hv22453 ov22453 => ?_)
        obtain ⟨b22454, rfl, mb22454, gb22454⟩ := okV_r ov22453
        have gb22454 : tag b22454 = 18 := tg_of gb22454
        refine lv_aload_n hx hb dX11_costs_47 rfl (lv_at hl 0 rfl) ?_
        refine t_get (C := RX11) (T := TX11) (N := 16) X hT m0 g0 rfl rfl 5 (by decide) qw_23 inlX11 rfl dX11_costs_48 (fun v22455 hv22455 ov22455 => ?_)
        obtain rfl : v22455 = .ref b22447 := hv22455.symm.trans hv22446
        refine lv_iload_n hx hb dX11_costs_51 rfl (lv_at hl 1 rfl) ?_
        refine lv_iload_n hx hb dX11_costs_52 rfl (lv_at hl 2 rfl) ?_
        refine t_cSi (n := 4) (As := [.ref b22454, .ref b22447, .int p1, .int p2]) (rest := [.ref p0]) X hT (kt33_X6_priceOf l G tag L F hT.2.2.2 b22454 b22447 p1 p2 mb22454 gb22454 mb22447 gb22447 (by omega)) qw_959 qw_960 qw_380 qw_961 ⟨by decide +kernel, by decide +kernel, by decide +kernel⟩ ⟨Nat.le_of_ble_eq_true rfl, Nat.le_of_ble_eq_true rfl⟩ hl rfl rfl (Nat.le_of_ble_eq_true rfl) dX11_costs_53 ⟨Nat.le_of_ble_eq_true rfl, Nat.le_of_ble_eq_true rfl⟩ (fun z22456 F9 H locs hT hz22456 => ?_)
        obtain ⟨fz22456, hz22456⟩ := hz22456
        rw [fz22456] at hT
        refine t_cVi (n := 1) (C := RX11) (T := TX11) (N := 16) (As := [.int z22456]) (rest := []) X hT (kt56_X11_answer l G tag L F hT.2.2.2 p0 z22456 m0 g0) m0 g0 rfl rfl qw_463 qw_464 qw_465 qw_2 qw_466 ⟨rfl, by decide +kernel, by decide +kernel, by decide +kernel⟩ ⟨Nat.le_of_ble_eq_true rfl, Nat.le_of_ble_eq_true rfl⟩ hl rfl rfl (Nat.le_of_ble_eq_true rfl) dX11_costs_56 ⟨Nat.le_of_ble_eq_true rfl, Nat.le_of_ble_eq_true rfl⟩ (fun z22457 F H locs hT hz22457 => ?_)
        obtain ⟨hz22457, yz22457⟩ := hz22457
        have hv22446 := (yz22457.1 _ 5 (Or.inr (by decide))).trans hv22446
        have hv22448 := (yz22457.1 _ 2 (Or.inr (by decide))).trans hv22448
        have hv22453 := (yz22457.1 _ 3 (Or.inr (by decide))).trans hv22453
        have hfr : (∀ b j : Nat, (tag b ≠ 26 ∨ j ≠ 13) → fld F b j = fld Fo b j) ∧ EF tag F Fo := ⟨fun b j n26_13 => (yz22457.1 b j n26_13).trans (hfr.1 b j n26_13), fun b j hb => (yz22457.2 b j hb).trans (hfr.2 b j hb)⟩
        exact t_iret hQ X hT (⟨rg_all _, hfr⟩) (Nat.le_of_ble_eq_true rfl) (Nat.le_of_ble_eq_true rfl) dX11_costs_59
      · have w22458 := cv_nlt (rfl : z22450.toInt = z22450.toInt) (by decide : (6 : Int32).toInt = 6) c22451
        refine lv_aload_n hx hb dX11_costs_36 rfl (lv_at hl 0 rfl) ?_
        refine lv_iconst (v := 3) hx hb dX11_costs_37 (by decide) ?_
        refine t_cVi (n := 1) (C := RX11) (T := TX11) (N := 16) (As := [.int 3]) (rest := []) X hT (kt63_X11_refuse l G tag L F hT.2.2.2 p0 3 m0 g0) m0 g0 rfl rfl qw_152 qw_153 qw_154 qw_2 qw_155 ⟨rfl, by decide +kernel, by decide +kernel, by decide +kernel⟩ ⟨Nat.le_of_ble_eq_true rfl, Nat.le_of_ble_eq_true rfl⟩ hl rfl rfl (Nat.le_of_ble_eq_true rfl) dX11_costs_38 ⟨Nat.le_of_ble_eq_true rfl, Nat.le_of_ble_eq_true rfl⟩ (fun z22459 F H locs hT hz22459 => ?_)
        obtain ⟨hz22459, yz22459⟩ := hz22459
        have hv22446 := (yz22459.1 _ 5 (Or.inr (by decide))).trans hv22446
        have hv22448 := (yz22459.1 _ 2 (Or.inr (by decide))).trans hv22448
        have hfr : (∀ b j : Nat, (tag b ≠ 26 ∨ j ≠ 13) → fld F b j = fld Fo b j) ∧ EF tag F Fo := ⟨fun b j n26_13 => (yz22459.1 b j n26_13).trans (hfr.1 b j n26_13), fun b j hb => (yz22459.2 b j hb).trans (hfr.2 b j hb)⟩
        exact t_iret hQ X hT (⟨rg_all _, hfr⟩) (Nat.le_of_ble_eq_true rfl) (Nat.le_of_ble_eq_true rfl) dX11_costs_41
    · have w22460 := cv_eq (rfl : z22443.toInt = z22443.toInt) (by decide : (0 : Int32).toInt = 0) c22444
      exact K16  _ _ _ _  hT hfr  (lv_sub hl [0, 1, 2] rfl)
set_option maxHeartbeats 4000000 in
set_option maxRecDepth 100000 in
theorem kt69_X11_door (l : Launch) (G : KG) (tag : Nat → Nat) (L : List Nat) (Fo : Nat → va_E) (ho : okT G ttC tag L Fo) (p0 : Nat) (p1 : Int32) (m0 : p0 ∈ L) (g0 : tag p0 = 26) : TMi l yX11_door cX11_door 2 (some .int) { frames := 4, cells := 0, slots := 0, locals := 108 } G ttC tag L Fo [.ref p0, .int p1] (fun r F1 => ((-2147483648) ≤ r.toInt ∧ r.toInt ≤ 2147483647) ∧ ((∀ b j : Nat, (tag b ≠ 26 ∨ j ≠ 13) → fld F1 b j = fld Fo b j) ∧ EF tag F1 Fo)) := by
  refine t_bodyi (y := yX11_door) (cd := cX11_door) (mL := 2) (rt := (some .int)) (rm := { frames := 4, cells := 0, slots := 0, locals := 108 }) (av := [.ref p0, .int p1]) (by decide) (Nat.le_of_ble_eq_true rfl) ho ?_
  intro p e s m args below meth c ls A Q hQ X hT hl
  have hx := X.1.1
  have hb := X.1.2.1
  have hl : lv_has ls 2 [(0, .ref p0), (1, .int p1)] := hl
  have rp1 := rg_all p1
  obtain ⟨F, hFo⟩ : ∃ F : Nat → va_E, F = Fo := ⟨_, rfl⟩
  rw [← hFo] at hT
  have hfr : (∀ b j : Nat, (tag b ≠ 26 ∨ j ≠ 13) → fld F b j = fld Fo b j) ∧ EF tag F Fo := by
    rw [hFo]
    exact ⟨by intros; rfl, fun _ _ _ => rfl⟩
  have K47 : ∀ (z22682 : Int32) (b22683 : Nat) (F : Nat → va_E) (H : Heap) (locs : List Loc) (ls : Array Slot), ((-2) ≤ z22682.toInt ∧ z22682.toInt ≤ 900) → (b22683 ∈ L) → (tag b22683 = 26) → (0 ≤ p1.toInt ∧ p1.toInt ≤ 3) → TH G ttC A s tag L F H locs → ((∀ b j : Nat, (tag b ≠ 26 ∨ j ≠ 13) → fld F b j = fld Fo b j) ∧ EF tag F Fo) → lv_has ls 2 [(0, .ref p0), (1, .int p1)] → W p l e { frames := 4, cells := 0, slots := 0, locals := 108 } s m args below meth c H locs 0 0 Q (F0 m 47 ls [.int z22682, .ref b22683]) := by
    intro z22682 b22683 F H locs ls rz22682 mb22683 gb22683 r9s22681 hT hfr hl
    refine t_cVi (n := 1) (C := RX11) (T := TX11) (N := 16) (As := [.int z22682]) (rest := []) X hT (kt56_X11_answer l G tag L F hT.2.2.2 b22683 z22682 mb22683 gb22683) mb22683 gb22683 rfl rfl qw_463 qw_464 qw_465 qw_2 qw_466 ⟨rfl, by decide +kernel, by decide +kernel, by decide +kernel⟩ ⟨Nat.le_of_ble_eq_true rfl, Nat.le_of_ble_eq_true rfl⟩ hl rfl rfl (Nat.le_of_ble_eq_true rfl) dX11_door_47 ⟨Nat.le_of_ble_eq_true rfl, Nat.le_of_ble_eq_true rfl⟩ (fun z22684 F H locs hT hz22684 => ?_)
    obtain ⟨hz22684, yz22684⟩ := hz22684
    have hfr : (∀ b j : Nat, (tag b ≠ 26 ∨ j ≠ 13) → fld F b j = fld Fo b j) ∧ EF tag F Fo := ⟨fun b j n26_13 => (yz22684.1 b j n26_13).trans (hfr.1 b j n26_13), fun b j hb => (yz22684.2 b j hb).trans (hfr.2 b j hb)⟩
    exact t_iret hQ X hT (⟨rg_all _, hfr⟩) (Nat.le_of_ble_eq_true rfl) (Nat.le_of_ble_eq_true rfl) dX11_door_50
  refine lv_aload_n hx hb dX11_door_0 rfl (lv_at hl 0 rfl) ?_
  refine lv_iload_n hx hb dX11_door_1 rfl (lv_at hl 1 rfl) ?_
  refine t_cVi (n := 1) (C := RX11) (T := TX11) (N := 16) (As := [.int p1]) (rest := []) X hT (kt61_X11_isHouse l G tag L F hT.2.2.2 p0 p1 m0 g0) m0 g0 rfl rfl qw_770 qw_771 qw_772 qw_2 qw_773 ⟨rfl, by decide +kernel, by decide +kernel, by decide +kernel⟩ ⟨Nat.le_of_ble_eq_true rfl, Nat.le_of_ble_eq_true rfl⟩ hl rfl rfl (Nat.le_of_ble_eq_true rfl) dX11_door_2 ⟨Nat.le_of_ble_eq_true rfl, Nat.le_of_ble_eq_true rfl⟩ (fun z22685 F9 H locs hT hz22685 => ?_)
  obtain ⟨fz22685, hz22685⟩ := hz22685
  rw [fz22685] at hT
  obtain ⟨hz22685, iz22685⟩ := hz22685
  refine lv_if_ne (tgt := 14) hx hb dX11_door_5 (by decide) (fun c22686 => ?_) (fun c22686 => ?_)
  · have w22687 := cv_ne (rfl : z22685.toInt = z22685.toInt) (by decide : (0 : Int32).toInt = 0) c22686
    have w22688 := (fun h => (iz22685 h)) (by omega)
    refine lv_aload_n hx hb dX11_door_14 rfl (lv_at hl 0 rfl) ?_
    refine lv_aload_n hx hb dX11_door_15 rfl (lv_at hl 0 rfl) ?_
    refine t_get (C := RX11) (T := TX11) (N := 16) X hT m0 g0 rfl rfl 3 (by decide) qw_18 inlX11 rfl dX11_door_16 (fun v22689 hv22689 ov22689 => ?_)
    obtain ⟨b22690, rfl, mb22690, gb22690⟩ := okV_r ov22689
    have gb22690 : tag b22690 = 18 := tg_of gb22690
    refine lv_aload_n hx hb dX11_door_19 rfl (lv_at hl 0 rfl) ?_
    refine t_get (C := RX11) (T := TX11) (N := 16) X hT m0 g0 rfl rfl 5 (by decide) qw_23 inlX11 rfl dX11_door_20 (fun v22691 hv22691 ov22691 => ?_)
    obtain ⟨b22692, rfl, mb22692, gb22692⟩ := okV_r ov22691
    have gb22692 : tag b22692 = 19 := tg_of gb22692
    refine lv_iload_n hx hb dX11_door_23 rfl (lv_at hl 1 rfl) ?_
    refine t_cSi (n := 3) (As := [.ref b22690, .ref b22692, .int p1]) (rest := [.ref p0]) X hT (kt31_X6_isFit l G tag L F hT.2.2.2 b22690 b22692 p1 mb22690 gb22690 mb22692 gb22692 (by omega)) qw_904 qw_403 qw_380 qw_404 ⟨by decide +kernel, by decide +kernel, by decide +kernel⟩ ⟨Nat.le_of_ble_eq_true rfl, Nat.le_of_ble_eq_true rfl⟩ hl rfl rfl (Nat.le_of_ble_eq_true rfl) dX11_door_24 ⟨Nat.le_of_ble_eq_true rfl, Nat.le_of_ble_eq_true rfl⟩ (fun z22693 F9 H locs hT hz22693 => ?_)
    obtain ⟨fz22693, hz22693⟩ := hz22693
    rw [fz22693] at hT
    refine lv_if_eq (tgt := 45) hx hb dX11_door_27 (by decide) (fun c22694 => ?_) (fun c22694 => ?_)
    · have w22695 := cv_eq (rfl : z22693.toInt = z22693.toInt) (by decide : (0 : Int32).toInt = 0) c22694
      refine lv_bipush (v := (-2)) hx hb dX11_door_45 (by decide) ?_
      exact K47 (-2) p0 _ _ _ _ (by decide) m0 g0 (by omega) hT hfr  (lv_sub hl [0, 1] rfl)
    · have w22696 := cv_ne (rfl : z22693.toInt = z22693.toInt) (by decide : (0 : Int32).toInt = 0) c22694
      refine lv_aload_n hx hb dX11_door_30 rfl (lv_at hl 0 rfl) ?_
      refine t_get (C := RX11) (T := TX11) (N := 16) X hT m0 g0 rfl rfl 3 (by decide) qw_18 inlX11 rfl dX11_door_31 (fun v22697 hv22697 ov22697 => ?_)
      obtain rfl : v22697 = .ref b22690 := hv22697.symm.trans hv22689
      refine lv_aload_n hx hb dX11_door_34 rfl (lv_at hl 0 rfl) ?_
      refine t_get (C := RX11) (T := TX11) (N := 16) X hT m0 g0 rfl rfl 5 (by decide) qw_23 inlX11 rfl dX11_door_35 (fun v22698 hv22698 ov22698 => ?_)
      obtain rfl : v22698 = .ref b22692 := hv22698.symm.trans hv22691
      refine lv_iload_n hx hb dX11_door_38 rfl (lv_at hl 1 rfl) ?_
      refine t_cSi (n := 3) (As := [.ref b22690, .ref b22692, .int p1]) (rest := [.ref p0]) X hT (kt44_X6_lawDoor l G tag L F hT.2.2.2 b22690 b22692 p1 mb22690 gb22690 mb22692 gb22692 (by omega)) qw_913 qw_914 qw_380 qw_915 ⟨by decide +kernel, by decide +kernel, by decide +kernel⟩ ⟨Nat.le_of_ble_eq_true rfl, Nat.le_of_ble_eq_true rfl⟩ hl rfl rfl (Nat.le_of_ble_eq_true rfl) dX11_door_39 ⟨Nat.le_of_ble_eq_true rfl, Nat.le_of_ble_eq_true rfl⟩ (fun z22699 F9 H locs hT hz22699 => ?_)
      obtain ⟨fz22699, hz22699⟩ := hz22699
      rw [fz22699] at hT
      refine lv_goto (tgt := 47) hx hb dX11_door_42 (by decide) ?_
      exact K47 z22699 p0 _ _ _ _ (by omega) m0 g0 (by omega) hT hfr  (lv_sub hl [0, 1] rfl)
  · have w22700 := cv_eq (rfl : z22685.toInt = z22685.toInt) (by decide : (0 : Int32).toInt = 0) c22686
    refine lv_aload_n hx hb dX11_door_8 rfl (lv_at hl 0 rfl) ?_
    refine lv_iconst (v := 1) hx hb dX11_door_9 (by decide) ?_
    refine t_cVi (n := 1) (C := RX11) (T := TX11) (N := 16) (As := [.int 1]) (rest := []) X hT (kt63_X11_refuse l G tag L F hT.2.2.2 p0 1 m0 g0) m0 g0 rfl rfl qw_152 qw_153 qw_154 qw_2 qw_155 ⟨rfl, by decide +kernel, by decide +kernel, by decide +kernel⟩ ⟨Nat.le_of_ble_eq_true rfl, Nat.le_of_ble_eq_true rfl⟩ hl rfl rfl (Nat.le_of_ble_eq_true rfl) dX11_door_10 ⟨Nat.le_of_ble_eq_true rfl, Nat.le_of_ble_eq_true rfl⟩ (fun z22701 F H locs hT hz22701 => ?_)
    obtain ⟨hz22701, yz22701⟩ := hz22701
    have hfr : (∀ b j : Nat, (tag b ≠ 26 ∨ j ≠ 13) → fld F b j = fld Fo b j) ∧ EF tag F Fo := ⟨fun b j n26_13 => (yz22701.1 b j n26_13).trans (hfr.1 b j n26_13), fun b j hb => (yz22701.2 b j hb).trans (hfr.2 b j hb)⟩
    exact t_iret hQ X hT (⟨rg_all _, hfr⟩) (Nat.le_of_ble_eq_true rfl) (Nat.le_of_ble_eq_true rfl) dX11_door_13
set_option maxHeartbeats 4000000 in
set_option maxRecDepth 100000 in
theorem kt70_X11_isSkin (l : Launch) (G : KG) (tag : Nat → Nat) (L : List Nat) (F : Nat → va_E) (ho : okT G ttC tag L F) (p0 : Nat) (p1 : Int32) (p2 : Int32) (m0 : p0 ∈ L) (g0 : tag p0 = 26) : TMi l yX11_isSkin cX11_isSkin 3 (some .boolean) { frames := 2, cells := 0, slots := 0, locals := 43 } G ttC tag L F [.ref p0, .int p1, .int p2] (fun r F1 => F1 = F ∧ ((0 ≤ r.toInt ∧ r.toInt ≤ 1) ∧ (r.toInt ≠ 0 → (0 ≤ p1.toInt ∧ p1.toInt ≤ 3) ∧ (1 ≤ p2.toInt ∧ p2.toInt ≤ 6)))) := by
  refine t_bodyi (y := yX11_isSkin) (cd := cX11_isSkin) (mL := 3) (rt := (some .boolean)) (rm := { frames := 2, cells := 0, slots := 0, locals := 43 }) (av := [.ref p0, .int p1, .int p2]) (by decide) (Nat.le_of_ble_eq_true rfl) ho ?_
  intro p e s m args below meth c ls A Q hQ X hT hl
  have hx := X.1.1
  have hb := X.1.2.1
  have hl : lv_has ls 3 [(0, .ref p0), (1, .int p1), (2, .int p2)] := hl
  have rp1 := rg_all p1
  have rp2 := rg_all p2
  refine lv_iload_n hx hb dX11_isSkin_0 rfl (lv_at hl 2 rfl) ?_
  refine lv_if_le (tgt := 17) hx hb dX11_isSkin_1 (by decide) (fun c22801 => ?_) (fun c22801 => ?_)
  · have w22802 := cv_le (rfl : p2.toInt = p2.toInt) (by decide : (0 : Int32).toInt = 0) c22801
    refine lv_iconst (v := 0) hx hb dX11_isSkin_17 (by decide) ?_
    exact t_zret hQ X hT (by decide) (⟨rfl, ⟨(by decide), fun h => absurd (by decide) h⟩⟩) (Nat.le_of_ble_eq_true rfl) (Nat.le_of_ble_eq_true rfl) dX11_isSkin_18
  · have w22803 := cv_nle (rfl : p2.toInt = p2.toInt) (by decide : (0 : Int32).toInt = 0) c22801
    refine lv_aload_n hx hb dX11_isSkin_4 rfl (lv_at hl 0 rfl) ?_
    refine lv_iload_n hx hb dX11_isSkin_5 rfl (lv_at hl 1 rfl) ?_
    refine lv_iload_n hx hb dX11_isSkin_6 rfl (lv_at hl 2 rfl) ?_
    refine t_cVi (n := 2) (C := RX11) (T := TX11) (N := 16) (As := [.int p1, .int p2]) (rest := []) X hT (kt62_X11_isRoom l G tag L F hT.2.2.2 p0 p1 p2 m0 g0) m0 g0 rfl rfl qw_827 qw_828 qw_829 qw_2 qw_830 ⟨rfl, by decide +kernel, by decide +kernel, by decide +kernel⟩ ⟨Nat.le_of_ble_eq_true rfl, Nat.le_of_ble_eq_true rfl⟩ hl rfl rfl (Nat.le_of_ble_eq_true rfl) dX11_isSkin_7 ⟨Nat.le_of_ble_eq_true rfl, Nat.le_of_ble_eq_true rfl⟩ (fun z22804 F9 H locs hT hz22804 => ?_)
    obtain ⟨fz22804, hz22804⟩ := hz22804
    rw [fz22804] at hT
    obtain ⟨hz22804, iz22804⟩ := hz22804
    refine lv_if_eq (tgt := 17) hx hb dX11_isSkin_10 (by decide) (fun c22805 => ?_) (fun c22805 => ?_)
    · have w22806 := cv_eq (rfl : z22804.toInt = z22804.toInt) (by decide : (0 : Int32).toInt = 0) c22805
      refine lv_iconst (v := 0) hx hb dX11_isSkin_17 (by decide) ?_
      exact t_zret hQ X hT (by decide) (⟨rfl, ⟨(by decide), fun h => absurd (by decide) h⟩⟩) (Nat.le_of_ble_eq_true rfl) (Nat.le_of_ble_eq_true rfl) dX11_isSkin_18
    · have w22807 := cv_ne (rfl : z22804.toInt = z22804.toInt) (by decide : (0 : Int32).toInt = 0) c22805
      have w22808 := (fun h => (iz22804 h).1) (by omega)
      have w22809 := (fun h => (iz22804 h).2) (by omega)
      refine lv_iconst (v := 1) hx hb dX11_isSkin_13 (by decide) ?_
      refine lv_goto (tgt := 18) hx hb dX11_isSkin_14 (by decide) ?_
      exact t_zret hQ X hT (by decide) (⟨rfl, ⟨(by decide), fun _ => ⟨by omega, by omega⟩⟩⟩) (Nat.le_of_ble_eq_true rfl) (Nat.le_of_ble_eq_true rfl) dX11_isSkin_18
set_option maxHeartbeats 4000000 in
set_option maxRecDepth 100000 in
theorem kt71_X10_pass (l : Launch) (G : KG) (tag : Nat → Nat) (L : List Nat) (Fo : Nat → va_E) (ho : okT G ttC tag L Fo) (p0 : Nat) (p1 : Nat) (m0 : p0 ∈ L) (g0 : tag p0 = 18) (m1 : p1 ∈ L) (g1 : tag p1 = 19) : TMv l yX10_pass cX10_pass 5 { frames := 5, cells := 0, slots := 0, locals := 133 } G ttC tag L Fo [.ref p0, .ref p1, .ref (G.2 13)] (fun F1 => ((∀ b j : Nat, (tag b ≠ 19 ∨ j ≠ 0) → (tag b ≠ 19 ∨ j ≠ 1) → fld F1 b j = fld Fo b j) ∧ EF tag F1 Fo)) := by
  refine t_bodyv (y := yX10_pass) (cd := cX10_pass) (mL := 5) (rm := { frames := 5, cells := 0, slots := 0, locals := 133 }) (av := [.ref p0, .ref p1, .ref (G.2 13)]) (by decide) (Nat.le_of_ble_eq_true rfl) ho ?_
  intro p e s m args below meth c ls A Q hQ X hT hl
  have hx := X.1.1
  have hb := X.1.2.1
  have hl : lv_has ls 5 [(0, .ref p0), (1, .ref p1), (2, .ref (G.2 13))] := hl
  obtain ⟨F, hFo⟩ : ∃ F : Nat → va_E, F = Fo := ⟨_, rfl⟩
  rw [← hFo] at hT
  have hfr : (∀ b j : Nat, (tag b ≠ 19 ∨ j ≠ 0) → (tag b ≠ 19 ∨ j ≠ 1) → fld F b j = fld Fo b j) ∧ EF tag F Fo := by
    rw [hFo]
    exact ⟨by intros; rfl, fun _ _ _ => rfl⟩
  have K51 : ∀ (z23307 : Int32) (z23308 : Int32) (F : Nat → va_E) (H : Heap) (locs : List Loc) (ls : Array Slot), (0 ≤ z23307.toInt ∧ z23307.toInt ≤ 4) → (0 ≤ z23308.toInt ∧ z23308.toInt ≤ 4) → TH G ttC A s tag L F H locs → ((∀ b j : Nat, (tag b ≠ 19 ∨ j ≠ 0) → (tag b ≠ 19 ∨ j ≠ 1) → fld F b j = fld Fo b j) ∧ EF tag F Fo) → fld F p0 10 = .int z23308 → lv_has ls 5 [(0, .ref p0), (1, .ref p1), (2, .ref (G.2 13)), (3, .int z23307)] → W p l e { frames := 5, cells := 0, slots := 0, locals := 133 } s m args below meth c H locs 0 0 Q (F0 m 51 ls []) := by
    intro z23307 z23308 F H locs ls rz23307 rz23308 hT hfr qz23308 hl
    refine lv_aload_n hx hb dX10_pass_51 rfl (lv_at hl 1 rfl) ?_
    refine lv_dup hx hb dX10_pass_52 rfl ?_
    refine t_get (C := RX7) (T := TX7) (N := 7) X hT m1 g1 rfl rfl 0 (by decide) qw_1102 inlX7 rfl dX10_pass_53 (fun v23309 hv23309 ov23309 => ?_)
    obtain ⟨z23310, rfl, rz23310⟩ := okV_i ov23309
    refine lv_iconst (v := 1) hx hb dX10_pass_56 (by decide) ?_
    refine lv_iadd hx hb dX10_pass_57 ?_
    refine lv_topi (fun z23311 ez23311 => ?_)
    have rz23311 := rg_all z23311
    refine t_put (C := RX7) (T := TX7) (N := 7) (v := .int z23311) X hT m1 g1 rfl tyX7 tyX7_ok nmX7 rfl 0 (by decide) qw_1102 inlX7 rfl (by first | rfl | decide) (by first | rfl | decide) rfl (⟨_, rfl, (show (-2147483648) ≤ (z23311 : Int32).toInt from (by omega)), (show (z23311 : Int32).toInt ≤ 2147483647 from (by omega))⟩) dX10_pass_58 (fun F H locs hT v23312 h1v23312 h2v23312 => ?_)
    have qz23308 := (h1v23312 _ _ (Or.inr (by decide))).trans qz23308
    have hfr : (∀ b j : Nat, (tag b ≠ 19 ∨ j ≠ 0) → (tag b ≠ 19 ∨ j ≠ 1) → fld F b j = fld Fo b j) ∧ EF tag F Fo := ⟨fun b j n19_0 n19_1 => (h1v23312 b j (fr_ne g1 n19_0)).trans (hfr.1 b j n19_0 n19_1), fun b j hb => (h2v23312 b j).trans (hfr.2 b j hb)⟩
    exact t_vret hQ X hT hfr (Nat.le_of_ble_eq_true rfl) (Nat.le_of_ble_eq_true rfl) dX10_pass_61
  have K2 : ∀ (n : Nat) (z23313 : Int32) (F : Nat → va_E) (H : Heap) (locs : List Loc) (ls : Array Slot), (4 - z23313.toInt < (n : Int)) → (0 ≤ z23313.toInt ∧ z23313.toInt ≤ 4) → TH G ttC A s tag L F H locs → ((∀ b j : Nat, (tag b ≠ 19 ∨ j ≠ 0) → (tag b ≠ 19 ∨ j ≠ 1) → fld F b j = fld Fo b j) ∧ EF tag F Fo) → lv_has ls 5 [(0, .ref p0), (1, .ref p1), (2, .ref (G.2 13)), (3, .int z23313)] → W p l e { frames := 5, cells := 0, slots := 0, locals := 133 } s m args below meth c H locs 0 0 Q (F0 m 2 ls []) := by
    intro n
    induction n with
    | zero =>
      intro z23313 F H locs ls hn rz23313 hT hfr hl
      exfalso
      omega
    | succ n ih2 =>
      intro z23313 F H locs ls hn rz23313 hT hfr hl
      have K45 : ∀ (z23315 : Int32) (z23316 : Int32) (F : Nat → va_E) (H : Heap) (locs : List Loc) (ls : Array Slot), (0 ≤ z23315.toInt ∧ z23315.toInt ≤ 3) → (1 ≤ z23316.toInt ∧ z23316.toInt ≤ 4) → (0 ≤ z23313.toInt ∧ z23313.toInt ≤ 3) → TH G ttC A s tag L F H locs → ((∀ b j : Nat, (tag b ≠ 19 ∨ j ≠ 0) → (tag b ≠ 19 ∨ j ≠ 1) → fld F b j = fld Fo b j) ∧ EF tag F Fo) → fld F p0 10 = .int z23316 → lv_has ls 5 [(0, .ref p0), (1, .ref p1), (2, .ref (G.2 13)), (3, .int z23313), (4, .int z23315)] → W p l e { frames := 5, cells := 0, slots := 0, locals := 133 } s m args below meth c H locs 0 0 Q (F0 m 45 ls []) := by
        intro z23315 z23316 F H locs ls rz23315 rz23316 r9s23314 hT hfr qz23316 hl
        obtain ⟨z23317, ez23317⟩ : ∃ y : Int32, y = z23313 + 1 := ⟨_, rfl⟩
        have hz23317 : z23317.toInt = z23313.toInt + 1 := ar_add ez23317 rfl (by decide : (1 : Int32).toInt = 1) (by omega) (by omega)
        refine lv_iinc (v := z23317) (lv' := [(3, .int z23317), (0, .ref p0), (1, .ref p1), (2, .ref (G.2 13)), (4, .int z23315)]) hx hb dX10_pass_45 hl (k := 3) rfl (by rw [ez23317]; rfl) (by decide) rfl (fun ls hl => ?_)
        refine lv_goto (tgt := 2) hx hb dX10_pass_48 (by decide) ?_
        exact ih2 z23317 _ _ _ _ (by omega) (by omega) hT hfr  (lv_sub hl [1, 2, 3, 0] rfl)
      refine lv_iload_n hx hb dX10_pass_2 rfl (lv_at hl 3 rfl) ?_
      refine lv_aload_n hx hb dX10_pass_3 rfl (lv_at hl 0 rfl) ?_
      refine t_get (C := RX1) (T := TX1) (N := 20) X hT m0 g0 rfl rfl 10 (by decide) qw_1100 inlX1 rfl dX10_pass_4 (fun v23318 hv23318 ov23318 => ?_)
      obtain ⟨z23319, rfl, rz23319⟩ := okV_i ov23318
      refine lv_icmp_ge (tgt := 51) hx hb dX10_pass_7 (by decide) (fun c23320 => ?_) (fun c23320 => ?_)
      · have w23321 := cv_le (rfl : z23319.toInt = z23319.toInt) (rfl : z23313.toInt = z23313.toInt) c23320
        exact K51 z23313 z23319 _ _ _ _ (by omega) (by omega) hT hfr hv23318 (lv_sub hl [0, 1, 2, 3] rfl)
      · have w23322 := cv_nle (rfl : z23319.toInt = z23319.toInt) (rfl : z23313.toInt = z23313.toInt) c23320
        refine lv_iload_n hx hb dX10_pass_10 rfl (lv_at hl 3 rfl) ?_
        refine lv_aload_n hx hb dX10_pass_11 rfl (lv_at hl 2 rfl) ?_
        refine t_tlen (v := 4) X hT X.2.2.2.1.2.1.2.2.2 rfl dX10_pass_12 ?_
        refine lv_icmp_ge (tgt := 51) hx hb dX10_pass_13 (by decide) (fun c23323 => ?_) (fun c23323 => ?_)
        · have w23324 := cv_le (by decide : (4 : Int32).toInt = 4) (rfl : z23313.toInt = z23313.toInt) c23323
          exfalso
          omega
        · have w23325 := cv_nle (by decide : (4 : Int32).toInt = 4) (rfl : z23313.toInt = z23313.toInt) c23323
          refine lv_aload_n hx hb dX10_pass_16 rfl (lv_at hl 2 rfl) ?_
          refine lv_iload_n hx hb dX10_pass_17 rfl (lv_at hl 3 rfl) ?_
          refine t_tild X hT X.2.2.2.1.2.1.2.2.2 (by omega) dX10_pass_18 (fun z23326 ez23326 => ?_)
          have rz23326 : 0 ≤ z23326.toInt ∧ z23326.toInt ≤ 3 := by rw [ez23326]; exact gNums_r _
          refine lv_istore (lv' := [(4, .int z23326), (0, .ref p0), (1, .ref p1), (2, .ref (G.2 13)), (3, .int z23313)]) hx hb dX10_pass_19 hl (by decide) rfl (fun ls hl => ?_)
          refine lv_aload_n hx hb dX10_pass_21 rfl (lv_at hl 2 rfl) ?_
          refine t_get (C := RX7) (T := TX7) (N := 7) X hT m1 g1 rfl rfl 3 (by decide) qw_1101 inlX7 rfl dX10_pass_22 (fun v23327 hv23327 ov23327 => ?_)
          obtain ⟨b23328, rfl, mb23328, gb23328⟩ := okV_r ov23327
          have gb23328 : tag b23328 = 5 := tg_of gb23328
          refine lv_iload hx hb dX10_pass_25 (lv_at hl 0 rfl) ?_
          refine t_ild X hT mb23328 gb23328 rfl (by omega) dX10_pass_27 (fun z23329 vz23329 rz23329 => ?_)
          have rz23329 : (-2147483648) ≤ z23329.toInt ∧ z23329.toInt ≤ 2147483647 := rz23329
          refine lv_if_le (tgt := 45) hx hb dX10_pass_28 (by decide) (fun c23330 => ?_) (fun c23330 => ?_)
          · have w23331 := cv_le (rfl : z23329.toInt = z23329.toInt) (by decide : (0 : Int32).toInt = 0) c23330
            exact K45 z23326 z23319 _ _ _ _ (by omega) (by omega) (by omega) hT hfr hv23318 (lv_sub hl [1, 2, 3, 4, 0] rfl)
          · have w23332 := cv_nle (rfl : z23329.toInt = z23329.toInt) (by decide : (0 : Int32).toInt = 0) c23330
            refine lv_aload_n hx hb dX10_pass_31 rfl (lv_at hl 1 rfl) ?_
            refine lv_aload_n hx hb dX10_pass_32 rfl (lv_at hl 2 rfl) ?_
            refine lv_iload hx hb dX10_pass_33 (lv_at hl 0 rfl) ?_
            refine t_cSv (n := 3) (As := [.ref p0, .ref p1, .int z23326]) (rest := []) X hT (kt47_X10_liveOn l G tag L F hT.2.2.2 p0 p1 z23326 m0 g0 m1 g1 (by omega)) qw_1103 qw_1104 qw_32 qw_1105 ⟨by decide +kernel, by decide +kernel, by decide +kernel⟩ ⟨Nat.le_of_ble_eq_true rfl, Nat.le_of_ble_eq_true rfl⟩ hl rfl rfl (Nat.le_of_ble_eq_true rfl) dX10_pass_35 ⟨Nat.le_of_ble_eq_true rfl, Nat.le_of_ble_eq_true rfl⟩ (fun F H locs hT hz23333 => ?_)
            have yz23333 := hz23333
            have hv23318 := (yz23333.1 _ 10 (Or.inr (by decide))).trans hv23318
            have hv23327 := (yz23333.1 _ 3 (Or.inr (by decide))).trans hv23327
            have hfr : (∀ b j : Nat, (tag b ≠ 19 ∨ j ≠ 0) → (tag b ≠ 19 ∨ j ≠ 1) → fld F b j = fld Fo b j) ∧ EF tag F Fo := ⟨fun b j n19_0 n19_1 => (yz23333.1 b j n19_1).trans (hfr.1 b j n19_0 n19_1), fun b j hb => (yz23333.2 b j hb).trans (hfr.2 b j hb)⟩
            refine lv_aload_n hx hb dX10_pass_38 rfl (lv_at hl 1 rfl) ?_
            refine lv_aload_n hx hb dX10_pass_39 rfl (lv_at hl 2 rfl) ?_
            refine lv_iload hx hb dX10_pass_40 (lv_at hl 0 rfl) ?_
            refine t_cSv (n := 3) (As := [.ref p0, .ref p1, .int z23326]) (rest := []) X hT (kt45_X10_grow l G tag L F hT.2.2.2 p0 p1 z23326 m0 g0 m1 g1 (by omega)) qw_1128 qw_1129 qw_32 qw_1130 ⟨by decide +kernel, by decide +kernel, by decide +kernel⟩ ⟨Nat.le_of_ble_eq_true rfl, Nat.le_of_ble_eq_true rfl⟩ hl rfl rfl (Nat.le_of_ble_eq_true rfl) dX10_pass_42 ⟨Nat.le_of_ble_eq_true rfl, Nat.le_of_ble_eq_true rfl⟩ (fun F H locs hT hz23334 => ?_)
            have yz23334 := hz23334
            have hv23318 := (yz23334.1 _ 10 ).trans hv23318
            have hv23327 := (yz23334.1 _ 3 ).trans hv23327
            have hfr : (∀ b j : Nat, (tag b ≠ 19 ∨ j ≠ 0) → (tag b ≠ 19 ∨ j ≠ 1) → fld F b j = fld Fo b j) ∧ EF tag F Fo := ⟨fun b j n19_0 n19_1 => (yz23334.1 b j ).trans (hfr.1 b j n19_0 n19_1), fun b j hb => (yz23334.2 b j hb).trans (hfr.2 b j hb)⟩
            exact K45 z23326 z23319 _ _ _ _ (by omega) (by omega) (by omega) hT hfr hv23318 (lv_sub hl [1, 2, 3, 4, 0] rfl)
  refine lv_iconst (v := 0) hx hb dX10_pass_0 (by decide) ?_
  refine lv_istore_n (lv' := [(3, .int 0), (0, .ref p0), (1, .ref p1), (2, .ref (G.2 13))]) hx hb dX10_pass_1 rfl hl (by decide) rfl (fun ls hl => ?_)
  have kk23335 : (0 : Int32).toInt = 0 := by decide
  exact K2 5 0 _ _ _ _ (by omega) (by decide) hT hfr  (lv_sub hl [1, 2, 3, 0] rfl)
set_option maxHeartbeats 4000000 in
set_option maxRecDepth 100000 in
theorem kt72_X11_falls (l : Launch) (G : KG) (tag : Nat → Nat) (L : List Nat) (Fo : Nat → va_E) (ho : okT G ttC tag L Fo) (p0 : Nat) (p1 : Int32) (p2 : Int32) (p3 : Int32) (m0 : p0 ∈ L) (g0 : tag p0 = 26) : TMi l yX11_falls cX11_falls 5 (some .int) { frames := 6, cells := 0, slots := 0, locals := 157 } G ttC tag L Fo [.ref p0, .int p1, .int p2, .int p3] (fun r F1 => ((-2147483648) ≤ r.toInt ∧ r.toInt ≤ 2147483647) ∧ ((∀ b j : Nat, (tag b ≠ 19 ∨ j ≠ 0) → (tag b ≠ 19 ∨ j ≠ 1) → (tag b ≠ 26 ∨ j ≠ 13) → fld F1 b j = fld Fo b j) ∧ EF tag F1 Fo)) := by
  refine t_bodyi (y := yX11_falls) (cd := cX11_falls) (mL := 5) (rt := (some .int)) (rm := { frames := 6, cells := 0, slots := 0, locals := 157 }) (av := [.ref p0, .int p1, .int p2, .int p3]) (by decide) (Nat.le_of_ble_eq_true rfl) ho ?_
  intro p e s m args below meth c ls A Q hQ X hT hl
  have hx := X.1.1
  have hb := X.1.2.1
  have hl : lv_has ls 5 [(0, .ref p0), (1, .int p1), (2, .int p2), (3, .int p3)] := hl
  have rp1 := rg_all p1
  have rp2 := rg_all p2
  have rp3 := rg_all p3
  obtain ⟨F, hFo⟩ : ∃ F : Nat → va_E, F = Fo := ⟨_, rfl⟩
  rw [← hFo] at hT
  have hfr : (∀ b j : Nat, (tag b ≠ 19 ∨ j ≠ 0) → (tag b ≠ 19 ∨ j ≠ 1) → (tag b ≠ 26 ∨ j ≠ 13) → fld F b j = fld Fo b j) ∧ EF tag F Fo := by
    rw [hFo]
    exact ⟨by intros; rfl, fun _ _ _ => rfl⟩
  have K25 : ∀  (F : Nat → va_E) (H : Heap) (locs : List Loc) (ls : Array Slot), (0 ≤ p1.toInt ∧ p1.toInt ≤ 3) → (1 ≤ p2.toInt ∧ p2.toInt ≤ 6) → TH G ttC A s tag L F H locs → ((∀ b j : Nat, (tag b ≠ 19 ∨ j ≠ 0) → (tag b ≠ 19 ∨ j ≠ 1) → (tag b ≠ 26 ∨ j ≠ 13) → fld F b j = fld Fo b j) ∧ EF tag F Fo) → lv_has ls 5 [(0, .ref p0), (1, .int p1), (2, .int p2), (3, .int p3)] → W p l e { frames := 6, cells := 0, slots := 0, locals := 157 } s m args below meth c H locs 0 0 Q (F0 m 25 ls []) := by
    intro F H locs ls r9s23997 r9s23998 hT hfr hl
    refine lv_aload_n hx hb dX11_falls_25 rfl (lv_at hl 0 rfl) ?_
    refine lv_iconst (v := 2) hx hb dX11_falls_26 (by decide) ?_
    refine t_cVi (n := 1) (C := RX11) (T := TX11) (N := 16) (As := [.int 2]) (rest := []) X hT (kt63_X11_refuse l G tag L F hT.2.2.2 p0 2 m0 g0) m0 g0 rfl rfl qw_152 qw_153 qw_154 qw_2 qw_155 ⟨rfl, by decide +kernel, by decide +kernel, by decide +kernel⟩ ⟨Nat.le_of_ble_eq_true rfl, Nat.le_of_ble_eq_true rfl⟩ hl rfl rfl (Nat.le_of_ble_eq_true rfl) dX11_falls_27 ⟨Nat.le_of_ble_eq_true rfl, Nat.le_of_ble_eq_true rfl⟩ (fun z23999 F H locs hT hz23999 => ?_)
    obtain ⟨hz23999, yz23999⟩ := hz23999
    have hfr : (∀ b j : Nat, (tag b ≠ 19 ∨ j ≠ 0) → (tag b ≠ 19 ∨ j ≠ 1) → (tag b ≠ 26 ∨ j ≠ 13) → fld F b j = fld Fo b j) ∧ EF tag F Fo := ⟨fun b j n19_0 n19_1 n26_13 => (yz23999.1 b j n26_13).trans (hfr.1 b j n19_0 n19_1 n26_13), fun b j hb => (yz23999.2 b j hb).trans (hfr.2 b j hb)⟩
    exact t_iret hQ X hT (⟨rg_all _, hfr⟩) (Nat.le_of_ble_eq_true rfl) (Nat.le_of_ble_eq_true rfl) dX11_falls_30
  have K45 : ∀ (n : Nat) (z24003 : Int32) (F : Nat → va_E) (H : Heap) (locs : List Loc) (ls : Array Slot), (61 - z24003.toInt < (n : Int)) → (0 ≤ z24003.toInt ∧ z24003.toInt ≤ 61) → (0 ≤ p1.toInt ∧ p1.toInt ≤ 3) → (1 ≤ p2.toInt ∧ p2.toInt ≤ 6) → (0 ≤ p3.toInt ∧ p3.toInt ≤ 60) → TH G ttC A s tag L F H locs → ((∀ b j : Nat, (tag b ≠ 19 ∨ j ≠ 0) → (tag b ≠ 19 ∨ j ≠ 1) → (tag b ≠ 26 ∨ j ≠ 13) → fld F b j = fld Fo b j) ∧ EF tag F Fo) → lv_has ls 5 [(0, .ref p0), (1, .int p1), (2, .int p2), (3, .int p3), (4, .int z24003)] → W p l e { frames := 6, cells := 0, slots := 0, locals := 157 } s m args below meth c H locs 0 0 Q (F0 m 45 ls []) := by
    intro n
    induction n with
    | zero =>
      intro z24003 F H locs ls hn rz24003 r9s24000 r9s24001 r9s24002 hT hfr hl
      exfalso
      omega
    | succ n ih45 =>
      intro z24003 F H locs ls hn rz24003 r9s24000 r9s24001 r9s24002 hT hfr hl
      refine lv_iload hx hb dX11_falls_45 (lv_at hl 4 rfl) ?_
      refine lv_iload_n hx hb dX11_falls_47 rfl (lv_at hl 3 rfl) ?_
      refine lv_icmp_gt (tgt := 90) hx hb dX11_falls_48 (by decide) (fun c24004 => ?_) (fun c24004 => ?_)
      · have w24005 := cv_lt (rfl : p3.toInt = p3.toInt) (rfl : z24003.toInt = z24003.toInt) c24004
        refine lv_aload_n hx hb dX11_falls_90 rfl (lv_at hl 0 rfl) ?_
        refine lv_bipush (v := (-2)) hx hb dX11_falls_91 (by decide) ?_
        refine t_cVi (n := 1) (C := RX11) (T := TX11) (N := 16) (As := [.int (-2)]) (rest := []) X hT (kt56_X11_answer l G tag L F hT.2.2.2 p0 (-2) m0 g0) m0 g0 rfl rfl qw_463 qw_464 qw_465 qw_2 qw_466 ⟨rfl, by decide +kernel, by decide +kernel, by decide +kernel⟩ ⟨Nat.le_of_ble_eq_true rfl, Nat.le_of_ble_eq_true rfl⟩ hl rfl rfl (Nat.le_of_ble_eq_true rfl) dX11_falls_93 ⟨Nat.le_of_ble_eq_true rfl, Nat.le_of_ble_eq_true rfl⟩ (fun z24006 F H locs hT hz24006 => ?_)
        obtain ⟨hz24006, yz24006⟩ := hz24006
        have hfr : (∀ b j : Nat, (tag b ≠ 19 ∨ j ≠ 0) → (tag b ≠ 19 ∨ j ≠ 1) → (tag b ≠ 26 ∨ j ≠ 13) → fld F b j = fld Fo b j) ∧ EF tag F Fo := ⟨fun b j n19_0 n19_1 n26_13 => (yz24006.1 b j n26_13).trans (hfr.1 b j n19_0 n19_1 n26_13), fun b j hb => (yz24006.2 b j hb).trans (hfr.2 b j hb)⟩
        exact t_iret hQ X hT (⟨rg_all _, hfr⟩) (Nat.le_of_ble_eq_true rfl) (Nat.le_of_ble_eq_true rfl) dX11_falls_96
      · have w24007 := cv_nlt (rfl : p3.toInt = p3.toInt) (rfl : z24003.toInt = z24003.toInt) c24004
        refine lv_aload_n hx hb dX11_falls_51 rfl (lv_at hl 0 rfl) ?_
        refine t_get (C := RX11) (T := TX11) (N := 16) X hT m0 g0 rfl rfl 7 (by decide) qw_25 inlX11 rfl dX11_falls_52 (fun v24008 hv24008 ov24008 => ?_)
        obtain ⟨b24009, rfl, mb24009, gb24009⟩ := okV_r ov24008
        have gb24009 : tag b24009 = 19 := tg_of gb24009
        refine lv_iload_n hx hb dX11_falls_55 rfl (lv_at hl 1 rfl) ?_
        refine lv_iload_n hx hb dX11_falls_56 rfl (lv_at hl 2 rfl) ?_
        refine t_cVi (n := 2) (C := RX7) (T := TX7) (N := 7) (As := [.int p1, .int p2]) (rest := []) X hT (kt18_X7_stands l G tag L F hT.2.2.2 b24009 p1 p2 mb24009 gb24009) mb24009 gb24009 rfl rfl qw_852 qw_853 qw_854 qw_22 qw_855 ⟨rfl, by decide +kernel, by decide +kernel, by decide +kernel⟩ ⟨Nat.le_of_ble_eq_true rfl, Nat.le_of_ble_eq_true rfl⟩ hl rfl rfl (Nat.le_of_ble_eq_true rfl) dX11_falls_57 ⟨Nat.le_of_ble_eq_true rfl, Nat.le_of_ble_eq_true rfl⟩ (fun z24010 F9 H locs hT hz24010 => ?_)
        obtain ⟨fz24010, hz24010⟩ := hz24010
        rw [fz24010] at hT
        refine lv_if_ne (tgt := 70) hx hb dX11_falls_60 (by decide) (fun c24011 => ?_) (fun c24011 => ?_)
        · have w24012 := cv_ne (rfl : z24010.toInt = z24010.toInt) (by decide : (0 : Int32).toInt = 0) c24011
          refine lv_aload_n hx hb dX11_falls_70 rfl (lv_at hl 0 rfl) ?_
          refine t_get (C := RX11) (T := TX11) (N := 16) X hT m0 g0 rfl rfl 3 (by decide) qw_18 inlX11 rfl dX11_falls_71 (fun v24013 hv24013 ov24013 => ?_)
          obtain ⟨b24014, rfl, mb24014, gb24014⟩ := okV_r ov24013
          have gb24014 : tag b24014 = 18 := tg_of gb24014
          refine lv_aload_n hx hb dX11_falls_74 rfl (lv_at hl 0 rfl) ?_
          refine t_get (C := RX11) (T := TX11) (N := 16) X hT m0 g0 rfl rfl 7 (by decide) qw_25 inlX11 rfl dX11_falls_75 (fun v24015 hv24015 ov24015 => ?_)
          obtain rfl : v24015 = .ref b24009 := hv24015.symm.trans hv24008
          refine t_gets X hT X.2.2.2.1.2.1.2.2.2 qw_1096 dX11_falls_78 ?_
          refine t_cSv (n := 3) (As := [.ref b24014, .ref b24009, .ref (G.2 13)]) (rest := []) X hT (kt71_X10_pass l G tag L F hT.2.2.2 b24014 b24009 mb24014 gb24014 mb24009 gb24009) qw_1097 qw_1098 qw_32 qw_1099 ⟨by decide +kernel, by decide +kernel, by decide +kernel⟩ ⟨Nat.le_of_ble_eq_true rfl, Nat.le_of_ble_eq_true rfl⟩ hl rfl rfl (Nat.le_of_ble_eq_true rfl) dX11_falls_81 ⟨Nat.le_of_ble_eq_true rfl, Nat.le_of_ble_eq_true rfl⟩ (fun F H locs hT hz24016 => ?_)
          have yz24016 := hz24016
          have hv24008 := (yz24016.1 _ 7 (Or.inr (by decide)) (Or.inr (by decide))).trans hv24008
          have hv24013 := (yz24016.1 _ 3 (Or.inr (by decide)) (Or.inr (by decide))).trans hv24013
          have hfr : (∀ b j : Nat, (tag b ≠ 19 ∨ j ≠ 0) → (tag b ≠ 19 ∨ j ≠ 1) → (tag b ≠ 26 ∨ j ≠ 13) → fld F b j = fld Fo b j) ∧ EF tag F Fo := ⟨fun b j n19_0 n19_1 n26_13 => (yz24016.1 b j n19_0 n19_1).trans (hfr.1 b j n19_0 n19_1 n26_13), fun b j hb => (yz24016.2 b j hb).trans (hfr.2 b j hb)⟩
          obtain ⟨z24017, ez24017⟩ : ∃ y : Int32, y = z24003 + 1 := ⟨_, rfl⟩
          have hz24017 : z24017.toInt = z24003.toInt + 1 := ar_add ez24017 rfl (by decide : (1 : Int32).toInt = 1) (by omega) (by omega)
          refine lv_iinc (v := z24017) (lv' := [(4, .int z24017), (0, .ref p0), (1, .int p1), (2, .int p2), (3, .int p3)]) hx hb dX11_falls_84 hl (k := 4) rfl (by rw [ez24017]; rfl) (by decide) rfl (fun ls hl => ?_)
          refine lv_goto (tgt := 45) hx hb dX11_falls_87 (by decide) ?_
          exact ih45 z24017 _ _ _ _ (by omega) (by omega) (by omega) (by omega) (by omega) hT hfr  (lv_sub hl [1, 2, 3, 4, 0] rfl)
        · have w24018 := cv_eq (rfl : z24010.toInt = z24010.toInt) (by decide : (0 : Int32).toInt = 0) c24011
          refine lv_aload_n hx hb dX11_falls_63 rfl (lv_at hl 0 rfl) ?_
          refine lv_iload hx hb dX11_falls_64 (lv_at hl 4 rfl) ?_
          refine t_cVi (n := 1) (C := RX11) (T := TX11) (N := 16) (As := [.int z24003]) (rest := []) X hT (kt56_X11_answer l G tag L F hT.2.2.2 p0 z24003 m0 g0) m0 g0 rfl rfl qw_463 qw_464 qw_465 qw_2 qw_466 ⟨rfl, by decide +kernel, by decide +kernel, by decide +kernel⟩ ⟨Nat.le_of_ble_eq_true rfl, Nat.le_of_ble_eq_true rfl⟩ hl rfl rfl (Nat.le_of_ble_eq_true rfl) dX11_falls_66 ⟨Nat.le_of_ble_eq_true rfl, Nat.le_of_ble_eq_true rfl⟩ (fun z24019 F H locs hT hz24019 => ?_)
          obtain ⟨hz24019, yz24019⟩ := hz24019
          have hv24008 := (yz24019.1 _ 7 (Or.inr (by decide))).trans hv24008
          have hfr : (∀ b j : Nat, (tag b ≠ 19 ∨ j ≠ 0) → (tag b ≠ 19 ∨ j ≠ 1) → (tag b ≠ 26 ∨ j ≠ 13) → fld F b j = fld Fo b j) ∧ EF tag F Fo := ⟨fun b j n19_0 n19_1 n26_13 => (yz24019.1 b j n26_13).trans (hfr.1 b j n19_0 n19_1 n26_13), fun b j hb => (yz24019.2 b j hb).trans (hfr.2 b j hb)⟩
          exact t_iret hQ X hT (⟨rg_all _, hfr⟩) (Nat.le_of_ble_eq_true rfl) (Nat.le_of_ble_eq_true rfl) dX11_falls_69
  refine lv_aload_n hx hb dX11_falls_0 rfl (lv_at hl 0 rfl) ?_
  refine lv_iload_n hx hb dX11_falls_1 rfl (lv_at hl 1 rfl) ?_
  refine lv_iload_n hx hb dX11_falls_2 rfl (lv_at hl 2 rfl) ?_
  refine t_cVi (n := 2) (C := RX11) (T := TX11) (N := 16) (As := [.int p1, .int p2]) (rest := []) X hT (kt70_X11_isSkin l G tag L F hT.2.2.2 p0 p1 p2 m0 g0) m0 g0 rfl rfl qw_823 qw_824 qw_825 qw_2 qw_826 ⟨rfl, by decide +kernel, by decide +kernel, by decide +kernel⟩ ⟨Nat.le_of_ble_eq_true rfl, Nat.le_of_ble_eq_true rfl⟩ hl rfl rfl (Nat.le_of_ble_eq_true rfl) dX11_falls_3 ⟨Nat.le_of_ble_eq_true rfl, Nat.le_of_ble_eq_true rfl⟩ (fun z24020 F9 H locs hT hz24020 => ?_)
  obtain ⟨fz24020, hz24020⟩ := hz24020
  rw [fz24020] at hT
  obtain ⟨hz24020, iz24020⟩ := hz24020
  refine lv_if_ne (tgt := 15) hx hb dX11_falls_6 (by decide) (fun c24021 => ?_) (fun c24021 => ?_)
  · have w24022 := cv_ne (rfl : z24020.toInt = z24020.toInt) (by decide : (0 : Int32).toInt = 0) c24021
    have w24023 := (fun h => (iz24020 h).1) (by omega)
    have w24024 := (fun h => (iz24020 h).2) (by omega)
    refine lv_iload_n hx hb dX11_falls_15 rfl (lv_at hl 3 rfl) ?_
    refine lv_if_lt (tgt := 25) hx hb dX11_falls_16 (by decide) (fun c24025 => ?_) (fun c24025 => ?_)
    · have w24026 := cv_lt (rfl : p3.toInt = p3.toInt) (by decide : (0 : Int32).toInt = 0) c24025
      exact K25  _ _ _ _ (by omega) (by omega) hT hfr  (lv_sub hl [0, 1, 2, 3] rfl)
    · have w24027 := cv_nlt (rfl : p3.toInt = p3.toInt) (by decide : (0 : Int32).toInt = 0) c24025
      refine lv_iload_n hx hb dX11_falls_19 rfl (lv_at hl 3 rfl) ?_
      refine lv_bipush (v := 60) hx hb dX11_falls_20 (by decide) ?_
      refine lv_icmp_le (tgt := 31) hx hb dX11_falls_22 (by decide) (fun c24028 => ?_) (fun c24028 => ?_)
      · have w24029 := cv_le (rfl : p3.toInt = p3.toInt) (by decide : (60 : Int32).toInt = 60) c24028
        refine lv_aload_n hx hb dX11_falls_31 rfl (lv_at hl 0 rfl) ?_
        refine t_get (C := RX11) (T := TX11) (N := 16) X hT m0 g0 rfl rfl 7 (by decide) qw_25 inlX11 rfl dX11_falls_32 (fun v24030 hv24030 ov24030 => ?_)
        obtain ⟨b24031, rfl, mb24031, gb24031⟩ := okV_r ov24030
        have gb24031 : tag b24031 = 19 := tg_of gb24031
        refine lv_aload_n hx hb dX11_falls_35 rfl (lv_at hl 0 rfl) ?_
        refine t_get (C := RX11) (T := TX11) (N := 16) X hT m0 g0 rfl rfl 5 (by decide) qw_23 inlX11 rfl dX11_falls_36 (fun v24032 hv24032 ov24032 => ?_)
        obtain ⟨b24033, rfl, mb24033, gb24033⟩ := okV_r ov24032
        have gb24033 : tag b24033 = 19 := tg_of gb24033
        refine t_cVv (n := 1) (C := RX7) (T := TX7) (N := 7) (As := [.ref b24033]) (rest := []) X hT (kt49_X7_copyFrom l G tag L F hT.2.2.2 b24031 b24033 mb24031 gb24031 mb24033 gb24033) mb24031 gb24031 rfl rfl qw_449 qw_450 qw_451 qw_22 qw_452 ⟨rfl, by decide +kernel, by decide +kernel, by decide +kernel⟩ ⟨Nat.le_of_ble_eq_true rfl, Nat.le_of_ble_eq_true rfl⟩ hl rfl rfl (Nat.le_of_ble_eq_true rfl) dX11_falls_39 ⟨Nat.le_of_ble_eq_true rfl, Nat.le_of_ble_eq_true rfl⟩ (fun F H locs hT hz24034 => ?_)
        have yz24034 := hz24034
        have hv24030 := (yz24034.1 _ 7 (Or.inr (by decide)) (Or.inr (by decide))).trans hv24030
        have hv24032 := (yz24034.1 _ 5 (Or.inr (by decide)) (Or.inr (by decide))).trans hv24032
        have hfr : (∀ b j : Nat, (tag b ≠ 19 ∨ j ≠ 0) → (tag b ≠ 19 ∨ j ≠ 1) → (tag b ≠ 26 ∨ j ≠ 13) → fld F b j = fld Fo b j) ∧ EF tag F Fo := ⟨fun b j n19_0 n19_1 n26_13 => (yz24034.1 b j n19_0 n19_1).trans (hfr.1 b j n19_0 n19_1 n26_13), fun b j hb => (yz24034.2 b j hb).trans (hfr.2 b j hb)⟩
        refine lv_iconst (v := 0) hx hb dX11_falls_42 (by decide) ?_
        refine lv_istore (lv' := [(4, .int 0), (0, .ref p0), (1, .int p1), (2, .int p2), (3, .int p3)]) hx hb dX11_falls_43 hl (by decide) rfl (fun ls hl => ?_)
        have kk24035 : (0 : Int32).toInt = 0 := by decide
        exact K45 62 0 _ _ _ _ (by omega) (by decide) (by omega) (by omega) (by omega) hT hfr  (lv_sub hl [1, 2, 3, 4, 0] rfl)
      · have w24036 := cv_nle (rfl : p3.toInt = p3.toInt) (by decide : (60 : Int32).toInt = 60) c24028
        exact K25  _ _ _ _ (by omega) (by omega) hT hfr  (lv_sub hl [0, 1, 2, 3] rfl)
  · have w24037 := cv_eq (rfl : z24020.toInt = z24020.toInt) (by decide : (0 : Int32).toInt = 0) c24021
    refine lv_aload_n hx hb dX11_falls_9 rfl (lv_at hl 0 rfl) ?_
    refine lv_iconst (v := 1) hx hb dX11_falls_10 (by decide) ?_
    refine t_cVi (n := 1) (C := RX11) (T := TX11) (N := 16) (As := [.int 1]) (rest := []) X hT (kt63_X11_refuse l G tag L F hT.2.2.2 p0 1 m0 g0) m0 g0 rfl rfl qw_152 qw_153 qw_154 qw_2 qw_155 ⟨rfl, by decide +kernel, by decide +kernel, by decide +kernel⟩ ⟨Nat.le_of_ble_eq_true rfl, Nat.le_of_ble_eq_true rfl⟩ hl rfl rfl (Nat.le_of_ble_eq_true rfl) dX11_falls_11 ⟨Nat.le_of_ble_eq_true rfl, Nat.le_of_ble_eq_true rfl⟩ (fun z24038 F H locs hT hz24038 => ?_)
    obtain ⟨hz24038, yz24038⟩ := hz24038
    have hfr : (∀ b j : Nat, (tag b ≠ 19 ∨ j ≠ 0) → (tag b ≠ 19 ∨ j ≠ 1) → (tag b ≠ 26 ∨ j ≠ 13) → fld F b j = fld Fo b j) ∧ EF tag F Fo := ⟨fun b j n19_0 n19_1 n26_13 => (yz24038.1 b j n26_13).trans (hfr.1 b j n19_0 n19_1 n26_13), fun b j hb => (yz24038.2 b j hb).trans (hfr.2 b j hb)⟩
    exact t_iret hQ X hT (⟨rg_all _, hfr⟩) (Nat.le_of_ble_eq_true rfl) (Nat.le_of_ble_eq_true rfl) dX11_falls_14
set_option maxHeartbeats 4000000 in
set_option maxRecDepth 100000 in
theorem kt73_X11_fault (l : Launch) (G : KG) (tag : Nat → Nat) (L : List Nat) (F : Nat → va_E) (ho : okT G ttC tag L F) (p0 : Nat) (m0 : p0 ∈ L) (g0 : tag p0 = 26) : TMi l yX11_fault cX11_fault 1 (some .int) { frames := 0, cells := 0, slots := 0, locals := 0 } G ttC tag L F [.ref p0] (fun r F1 => F1 = F ∧ ((-2147483648) ≤ r.toInt ∧ r.toInt ≤ 2147483647)) := by
  refine t_bodyi (y := yX11_fault) (cd := cX11_fault) (mL := 1) (rt := (some .int)) (rm := { frames := 0, cells := 0, slots := 0, locals := 0 }) (av := [.ref p0]) (by decide) (Nat.le_of_ble_eq_true rfl) ho ?_
  intro p e s m args below meth c ls A Q hQ X hT hl
  have hx := X.1.1
  have hb := X.1.2.1
  have hl : lv_has ls 1 [(0, .ref p0)] := hl
  refine lv_aload_n hx hb dX11_fault_0 rfl (lv_at hl 0 rfl) ?_
  refine t_get (C := RX11) (T := TX11) (N := 16) X hT m0 g0 rfl rfl 14 (by decide) qw_147 inlX11 rfl dX11_fault_1 (fun v24061 hv24061 ov24061 => ?_)
  obtain ⟨z24062, rfl, rz24062⟩ := okV_i ov24061
  exact t_iret hQ X hT (⟨rfl, rg_all _⟩) (Nat.le_of_ble_eq_true rfl) (Nat.le_of_ble_eq_true rfl) dX11_fault_4
set_option maxHeartbeats 4000000 in
set_option maxRecDepth 100000 in
theorem kt74_X11_putNumber (l : Launch) (G : KG) (tag : Nat → Nat) (L : List Nat) (Fo : Nat → va_E) (ho : okT G ttC tag L Fo) (p0 : Nat) (p1 : Int32) (m0 : p0 ∈ L) (g0 : tag p0 = 26) : TMv l yX11_putNumber cX11_putNumber 3 { frames := 0, cells := 0, slots := 0, locals := 0 } G ttC tag L Fo [.ref p0, .int p1] (fun F1 => ((∀ b j : Nat, (tag b ≠ 26 ∨ j ≠ 1) → fld F1 b j = fld Fo b j) ∧ EF tag F1 Fo)) := by
  refine t_bodyv (y := yX11_putNumber) (cd := cX11_putNumber) (mL := 3) (rm := { frames := 0, cells := 0, slots := 0, locals := 0 }) (av := [.ref p0, .int p1]) (by decide) (Nat.le_of_ble_eq_true rfl) ho ?_
  intro p e s m args below meth c ls A Q hQ X hT hl
  have hx := X.1.1
  have hb := X.1.2.1
  have hl : lv_has ls 3 [(0, .ref p0), (1, .int p1)] := hl
  have rp1 := rg_all p1
  obtain ⟨F, hFo⟩ : ∃ F : Nat → va_E, F = Fo := ⟨_, rfl⟩
  rw [← hFo] at hT
  have hfr : (∀ b j : Nat, (tag b ≠ 26 ∨ j ≠ 1) → fld F b j = fld Fo b j) ∧ EF tag F Fo := by
    rw [hFo]
    exact ⟨by intros; rfl, fun _ _ _ => rfl⟩
  have K3 : ∀ (n : Nat) (z24386 : Int32) (F : Nat → va_E) (H : Heap) (locs : List Loc) (ls : Array Slot), (z24386.toInt - (-8) < (n : Int)) → ((-8) ≤ z24386.toInt ∧ z24386.toInt ≤ 24) → TH G ttC A s tag L F H locs → ((∀ b j : Nat, (tag b ≠ 26 ∨ j ≠ 1) → fld F b j = fld Fo b j) ∧ EF tag F Fo) → lv_has ls 3 [(0, .ref p0), (1, .int p1), (2, .int z24386)] → W p l e { frames := 0, cells := 0, slots := 0, locals := 0 } s m args below meth c H locs 0 0 Q (F0 m 3 ls []) := by
    intro n
    induction n with
    | zero =>
      intro z24386 F H locs ls hn rz24386 hT hfr hl
      exfalso
      omega
    | succ n ih3 =>
      intro z24386 F H locs ls hn rz24386 hT hfr hl
      have K43 : ∀ (z24388 : Int32) (F : Nat → va_E) (H : Heap) (locs : List Loc) (ls : Array Slot), (1 ≤ z24388.toInt ∧ z24388.toInt ≤ 1000) → (0 ≤ z24386.toInt ∧ z24386.toInt ≤ 24) → TH G ttC A s tag L F H locs → ((∀ b j : Nat, (tag b ≠ 26 ∨ j ≠ 1) → fld F b j = fld Fo b j) ∧ EF tag F Fo) → fld F p0 1 = .int z24388 → lv_has ls 3 [(0, .ref p0), (1, .int p1), (2, .int z24386)] → W p l e { frames := 0, cells := 0, slots := 0, locals := 0 } s m args below meth c H locs 0 0 Q (F0 m 43 ls []) := by
        intro z24388 F H locs ls rz24388 r9s24387 hT hfr qz24388 hl
        obtain ⟨z24389, ez24389⟩ : ∃ y : Int32, y = z24386 + (-8) := ⟨_, rfl⟩
        have hz24389 : z24389.toInt = z24386.toInt + (-8) := ar_add ez24389 rfl (by decide : ((-8) : Int32).toInt = (-8)) (by omega) (by omega)
        refine lv_iinc (v := z24389) (lv' := [(2, .int z24389), (0, .ref p0), (1, .int p1)]) hx hb dX11_putNumber_43 hl (k := 2) rfl (by rw [ez24389]; rfl) (by decide) rfl (fun ls hl => ?_)
        refine lv_goto (tgt := 3) hx hb dX11_putNumber_46 (by decide) ?_
        exact ih3 z24389 _ _ _ _ (by omega) (by omega) hT hfr  (lv_sub hl [1, 2, 0] rfl)
      refine lv_iload_n hx hb dX11_putNumber_3 rfl (lv_at hl 2 rfl) ?_
      refine lv_if_lt (tgt := 49) hx hb dX11_putNumber_4 (by decide) (fun c24390 => ?_) (fun c24390 => ?_)
      · have w24391 := cv_lt (rfl : z24386.toInt = z24386.toInt) (by decide : (0 : Int32).toInt = 0) c24390
        exact t_vret hQ X hT hfr (Nat.le_of_ble_eq_true rfl) (Nat.le_of_ble_eq_true rfl) dX11_putNumber_49
      · have w24392 := cv_nlt (rfl : z24386.toInt = z24386.toInt) (by decide : (0 : Int32).toInt = 0) c24390
        refine lv_aload_n hx hb dX11_putNumber_7 rfl (lv_at hl 0 rfl) ?_
        refine t_get (C := RX11) (T := TX11) (N := 16) X hT m0 g0 rfl rfl 1 (by decide) qw_131 inlX11 rfl dX11_putNumber_8 (fun v24393 hv24393 ov24393 => ?_)
        obtain ⟨z24394, rfl, rz24394⟩ := okV_i ov24393
        refine lv_sipush (v := 1000) hx hb dX11_putNumber_11 (by decide) ?_
        refine lv_icmp_ge (tgt := 43) hx hb dX11_putNumber_14 (by decide) (fun c24395 => ?_) (fun c24395 => ?_)
        · have w24396 := cv_le (by decide : (1000 : Int32).toInt = 1000) (rfl : z24394.toInt = z24394.toInt) c24395
          exact K43 z24394 _ _ _ _ (by omega) (by omega) hT hfr hv24393 (lv_sub hl [0, 1, 2] rfl)
        · have w24397 := cv_nle (by decide : (1000 : Int32).toInt = 1000) (rfl : z24394.toInt = z24394.toInt) c24395
          refine lv_aload_n hx hb dX11_putNumber_17 rfl (lv_at hl 0 rfl) ?_
          refine t_get (C := RX11) (T := TX11) (N := 16) X hT m0 g0 rfl rfl 0 (by decide) qw_14 inlX11 rfl dX11_putNumber_18 (fun v24398 hv24398 ov24398 => ?_)
          obtain ⟨b24399, rfl, mb24399, gb24399⟩ := okV_r ov24398
          have gb24399 : tag b24399 = 1 := tg_of gb24399
          refine lv_aload_n hx hb dX11_putNumber_21 rfl (lv_at hl 0 rfl) ?_
          refine t_get (C := RX11) (T := TX11) (N := 16) X hT m0 g0 rfl rfl 1 (by decide) qw_131 inlX11 rfl dX11_putNumber_22 (fun v24400 hv24400 ov24400 => ?_)
          obtain rfl : v24400 = .int z24394 := hv24400.symm.trans hv24393
          refine lv_iload_n hx hb dX11_putNumber_25 rfl (lv_at hl 1 rfl) ?_
          refine lv_iload_n hx hb dX11_putNumber_26 rfl (lv_at hl 2 rfl) ?_
          refine lv_ishr hx hb dX11_putNumber_27 ?_
          refine lv_topi (fun z24401 ez24401 => ?_)
          have rz24401 := rg_all z24401
          refine lv_sipush (v := 255) hx hb dX11_putNumber_28 (by decide) ?_
          refine lv_iand hx hb dX11_putNumber_31 ?_
          refine lv_topi (fun z24402 ez24402 => ?_)
          have rz24402 : 0 ≤ z24402.toInt ∧ z24402.toInt ≤ 255 := ar_and ez24402 8 (by decide) (by decide)
          refine t_ist X hT mb24399 gb24399 rfl (by omega) (show 0 ≤ (z24402 : Int32).toInt ∧ (z24402 : Int32).toInt ≤ 255 from (by omega)) dX11_putNumber_32 (fun F H locs hT v24403 h1v24403 h2v24403 => ?_)
          have hv24393 := (h2v24403 _ _).trans hv24393
          have hv24398 := (h2v24403 _ _).trans hv24398
          have hfr : (∀ b j : Nat, (tag b ≠ 26 ∨ j ≠ 1) → fld F b j = fld Fo b j) ∧ EF tag F Fo := ⟨fun b j n26_1 => (h2v24403 b j).trans (hfr.1 b j n26_1), fun b j hb => (h1v24403 b j (Or.inl (ns_ne hb gb24399 (by decide)))).trans (hfr.2 b j hb)⟩
          refine lv_aload_n hx hb dX11_putNumber_33 rfl (lv_at hl 0 rfl) ?_
          refine lv_dup hx hb dX11_putNumber_34 rfl ?_
          refine t_get (C := RX11) (T := TX11) (N := 16) X hT m0 g0 rfl rfl 1 (by decide) qw_131 inlX11 rfl dX11_putNumber_35 (fun v24404 hv24404 ov24404 => ?_)
          obtain rfl : v24404 = .int z24394 := hv24404.symm.trans hv24393
          refine lv_iconst (v := 1) hx hb dX11_putNumber_38 (by decide) ?_
          refine lv_iadd hx hb dX11_putNumber_39 ?_
          refine lv_topi (fun z24405 ez24405 => ?_)
          have hz24405 : z24405.toInt = z24394.toInt + 1 := ar_add ez24405 (rfl : z24394.toInt = z24394.toInt) (by decide : (1 : Int32).toInt = 1) (by omega) (by omega)
          have rz24405 : 1 ≤ z24405.toInt ∧ z24405.toInt ≤ 1000 := by omega
          refine t_put (C := RX11) (T := TX11) (N := 16) (v := .int z24405) X hT m0 g0 rfl tyX11 tyX11_ok nmX11 rfl 1 (by decide) qw_131 inlX11 rfl (by first | rfl | decide) (by first | rfl | decide) rfl (⟨_, rfl, (show 0 ≤ (z24405 : Int32).toInt from (by omega)), (show (z24405 : Int32).toInt ≤ 1000 from (by omega))⟩) dX11_putNumber_40 (fun F H locs hT v24406 h1v24406 h2v24406 => ?_)
          have hv24398 := (h1v24406 _ _ (Or.inr (by decide))).trans hv24398
          have v24403 := (h2v24406 _ _).trans v24403
          have hfr : (∀ b j : Nat, (tag b ≠ 26 ∨ j ≠ 1) → fld F b j = fld Fo b j) ∧ EF tag F Fo := ⟨fun b j n26_1 => (h1v24406 b j (fr_ne g0 n26_1)).trans (hfr.1 b j n26_1), fun b j hb => (h2v24406 b j).trans (hfr.2 b j hb)⟩
          exact K43 z24405 _ _ _ _ (by omega) (by omega) hT hfr v24406 (lv_sub hl [0, 1, 2] rfl)
  refine lv_bipush (v := 24) hx hb dX11_putNumber_0 (by decide) ?_
  refine lv_istore_n (lv' := [(2, .int 24), (0, .ref p0), (1, .int p1)]) hx hb dX11_putNumber_2 rfl hl (by decide) rfl (fun ls hl => ?_)
  have kk24407 : (24 : Int32).toInt = 24 := by decide
  exact K3 33 24 _ _ _ _ (by omega) (by decide) hT hfr  (lv_sub hl [1, 2, 0] rfl)
set_option maxHeartbeats 4000000 in
set_option maxRecDepth 100000 in
theorem kt75_X11_feed (l : Launch) (G : KG) (tag : Nat → Nat) (L : List Nat) (Fo : Nat → va_E) (ho : okT G ttC tag L Fo) (p0 : Nat) (p1 : Int32) (p2 : Int32) (p3 : Int32) (p4 : Int32) (p5 : Int32) (m0 : p0 ∈ L) (g0 : tag p0 = 26) : TMi l yX11_feed cX11_feed 6 (some .int) { frames := 1, cells := 0, slots := 0, locals := 22 } G ttC tag L Fo [.ref p0, .int p1, .int p2, .int p3, .int p4, .int p5] (fun r F1 => ((-1) ≤ r.toInt ∧ r.toInt ≤ 1000) ∧ ((∀ b j : Nat, (tag b ≠ 26 ∨ j ≠ 1) → fld F1 b j = fld Fo b j) ∧ EF tag F1 Fo)) := by
  refine t_bodyi (y := yX11_feed) (cd := cX11_feed) (mL := 6) (rt := (some .int)) (rm := { frames := 1, cells := 0, slots := 0, locals := 22 }) (av := [.ref p0, .int p1, .int p2, .int p3, .int p4, .int p5]) (by decide) (Nat.le_of_ble_eq_true rfl) ho ?_
  intro p e s m args below meth c ls A Q hQ X hT hl
  have hx := X.1.1
  have hb := X.1.2.1
  have hl : lv_has ls 6 [(0, .ref p0), (1, .int p1), (2, .int p2), (3, .int p3), (4, .int p4), (5, .int p5)] := hl
  have rp1 := rg_all p1
  have rp2 := rg_all p2
  have rp3 := rg_all p3
  have rp4 := rg_all p4
  have rp5 := rg_all p5
  obtain ⟨F, hFo⟩ : ∃ F : Nat → va_E, F = Fo := ⟨_, rfl⟩
  rw [← hFo] at hT
  have hfr : (∀ b j : Nat, (tag b ≠ 26 ∨ j ≠ 1) → fld F b j = fld Fo b j) ∧ EF tag F Fo := by
    rw [hFo]
    exact ⟨by intros; rfl, fun _ _ _ => rfl⟩
  refine lv_aload_n hx hb dX11_feed_0 rfl (lv_at hl 0 rfl) ?_
  refine t_get (C := RX11) (T := TX11) (N := 16) X hT m0 g0 rfl rfl 1 (by decide) qw_131 inlX11 rfl dX11_feed_1 (fun v24546 hv24546 ov24546 => ?_)
  obtain ⟨z24547, rfl, rz24547⟩ := okV_i ov24546
  refine lv_bipush (v := 20) hx hb dX11_feed_4 (by decide) ?_
  refine lv_iadd hx hb dX11_feed_6 ?_
  refine lv_topi (fun z24548 ez24548 => ?_)
  have hz24548 : z24548.toInt = z24547.toInt + 20 := ar_add ez24548 (rfl : z24547.toInt = z24547.toInt) (by decide : (20 : Int32).toInt = 20) (by omega) (by omega)
  have rz24548 : 20 ≤ z24548.toInt ∧ z24548.toInt ≤ 1020 := by omega
  refine lv_sipush (v := 1000) hx hb dX11_feed_7 (by decide) ?_
  refine lv_icmp_le (tgt := 15) hx hb dX11_feed_10 (by decide) (fun c24549 => ?_) (fun c24549 => ?_)
  · have w24550 := cv_le (rfl : z24548.toInt = z24548.toInt) (by decide : (1000 : Int32).toInt = 1000) c24549
    refine lv_aload_n hx hb dX11_feed_15 rfl (lv_at hl 0 rfl) ?_
    refine lv_iload_n hx hb dX11_feed_16 rfl (lv_at hl 1 rfl) ?_
    refine t_cVv (n := 1) (C := RX11) (T := TX11) (N := 16) (As := [.int p1]) (rest := []) X hT (kt74_X11_putNumber l G tag L F hT.2.2.2 p0 p1 m0 g0) m0 g0 rfl rfl qw_132 qw_133 qw_134 qw_2 qw_135 ⟨rfl, by decide +kernel, by decide +kernel, by decide +kernel⟩ ⟨Nat.le_of_ble_eq_true rfl, Nat.le_of_ble_eq_true rfl⟩ hl rfl rfl (Nat.le_of_ble_eq_true rfl) dX11_feed_17 ⟨Nat.le_of_ble_eq_true rfl, Nat.le_of_ble_eq_true rfl⟩ (fun F H locs hT hz24551 => ?_)
    have yz24551 := hz24551
    have hfr : (∀ b j : Nat, (tag b ≠ 26 ∨ j ≠ 1) → fld F b j = fld Fo b j) ∧ EF tag F Fo := ⟨fun b j n26_1 => (yz24551.1 b j n26_1).trans (hfr.1 b j n26_1), fun b j hb => (yz24551.2 b j hb).trans (hfr.2 b j hb)⟩
    refine lv_aload_n hx hb dX11_feed_20 rfl (lv_at hl 0 rfl) ?_
    refine lv_iload_n hx hb dX11_feed_21 rfl (lv_at hl 2 rfl) ?_
    refine t_cVv (n := 1) (C := RX11) (T := TX11) (N := 16) (As := [.int p2]) (rest := []) X hT (kt74_X11_putNumber l G tag L F hT.2.2.2 p0 p2 m0 g0) m0 g0 rfl rfl qw_132 qw_133 qw_134 qw_2 qw_135 ⟨rfl, by decide +kernel, by decide +kernel, by decide +kernel⟩ ⟨Nat.le_of_ble_eq_true rfl, Nat.le_of_ble_eq_true rfl⟩ hl rfl rfl (Nat.le_of_ble_eq_true rfl) dX11_feed_22 ⟨Nat.le_of_ble_eq_true rfl, Nat.le_of_ble_eq_true rfl⟩ (fun F H locs hT hz24552 => ?_)
    have yz24552 := hz24552
    have hfr : (∀ b j : Nat, (tag b ≠ 26 ∨ j ≠ 1) → fld F b j = fld Fo b j) ∧ EF tag F Fo := ⟨fun b j n26_1 => (yz24552.1 b j n26_1).trans (hfr.1 b j n26_1), fun b j hb => (yz24552.2 b j hb).trans (hfr.2 b j hb)⟩
    refine lv_aload_n hx hb dX11_feed_25 rfl (lv_at hl 0 rfl) ?_
    refine lv_iload_n hx hb dX11_feed_26 rfl (lv_at hl 3 rfl) ?_
    refine t_cVv (n := 1) (C := RX11) (T := TX11) (N := 16) (As := [.int p3]) (rest := []) X hT (kt74_X11_putNumber l G tag L F hT.2.2.2 p0 p3 m0 g0) m0 g0 rfl rfl qw_132 qw_133 qw_134 qw_2 qw_135 ⟨rfl, by decide +kernel, by decide +kernel, by decide +kernel⟩ ⟨Nat.le_of_ble_eq_true rfl, Nat.le_of_ble_eq_true rfl⟩ hl rfl rfl (Nat.le_of_ble_eq_true rfl) dX11_feed_27 ⟨Nat.le_of_ble_eq_true rfl, Nat.le_of_ble_eq_true rfl⟩ (fun F H locs hT hz24553 => ?_)
    have yz24553 := hz24553
    have hfr : (∀ b j : Nat, (tag b ≠ 26 ∨ j ≠ 1) → fld F b j = fld Fo b j) ∧ EF tag F Fo := ⟨fun b j n26_1 => (yz24553.1 b j n26_1).trans (hfr.1 b j n26_1), fun b j hb => (yz24553.2 b j hb).trans (hfr.2 b j hb)⟩
    refine lv_aload_n hx hb dX11_feed_30 rfl (lv_at hl 0 rfl) ?_
    refine lv_iload hx hb dX11_feed_31 (lv_at hl 4 rfl) ?_
    refine t_cVv (n := 1) (C := RX11) (T := TX11) (N := 16) (As := [.int p4]) (rest := []) X hT (kt74_X11_putNumber l G tag L F hT.2.2.2 p0 p4 m0 g0) m0 g0 rfl rfl qw_132 qw_133 qw_134 qw_2 qw_135 ⟨rfl, by decide +kernel, by decide +kernel, by decide +kernel⟩ ⟨Nat.le_of_ble_eq_true rfl, Nat.le_of_ble_eq_true rfl⟩ hl rfl rfl (Nat.le_of_ble_eq_true rfl) dX11_feed_33 ⟨Nat.le_of_ble_eq_true rfl, Nat.le_of_ble_eq_true rfl⟩ (fun F H locs hT hz24554 => ?_)
    have yz24554 := hz24554
    have hfr : (∀ b j : Nat, (tag b ≠ 26 ∨ j ≠ 1) → fld F b j = fld Fo b j) ∧ EF tag F Fo := ⟨fun b j n26_1 => (yz24554.1 b j n26_1).trans (hfr.1 b j n26_1), fun b j hb => (yz24554.2 b j hb).trans (hfr.2 b j hb)⟩
    refine lv_aload_n hx hb dX11_feed_36 rfl (lv_at hl 0 rfl) ?_
    refine lv_iload hx hb dX11_feed_37 (lv_at hl 5 rfl) ?_
    refine t_cVv (n := 1) (C := RX11) (T := TX11) (N := 16) (As := [.int p5]) (rest := []) X hT (kt74_X11_putNumber l G tag L F hT.2.2.2 p0 p5 m0 g0) m0 g0 rfl rfl qw_132 qw_133 qw_134 qw_2 qw_135 ⟨rfl, by decide +kernel, by decide +kernel, by decide +kernel⟩ ⟨Nat.le_of_ble_eq_true rfl, Nat.le_of_ble_eq_true rfl⟩ hl rfl rfl (Nat.le_of_ble_eq_true rfl) dX11_feed_39 ⟨Nat.le_of_ble_eq_true rfl, Nat.le_of_ble_eq_true rfl⟩ (fun F H locs hT hz24555 => ?_)
    have yz24555 := hz24555
    have hfr : (∀ b j : Nat, (tag b ≠ 26 ∨ j ≠ 1) → fld F b j = fld Fo b j) ∧ EF tag F Fo := ⟨fun b j n26_1 => (yz24555.1 b j n26_1).trans (hfr.1 b j n26_1), fun b j hb => (yz24555.2 b j hb).trans (hfr.2 b j hb)⟩
    refine lv_aload_n hx hb dX11_feed_42 rfl (lv_at hl 0 rfl) ?_
    refine t_get (C := RX11) (T := TX11) (N := 16) X hT m0 g0 rfl rfl 1 (by decide) qw_131 inlX11 rfl dX11_feed_43 (fun v24556 hv24556 ov24556 => ?_)
    obtain ⟨z24557, rfl, rz24557⟩ := okV_i ov24556
    exact t_iret hQ X hT (⟨(by omega), hfr⟩) (Nat.le_of_ble_eq_true rfl) (Nat.le_of_ble_eq_true rfl) dX11_feed_46
  · have w24558 := cv_nle (rfl : z24548.toInt = z24548.toInt) (by decide : (1000 : Int32).toInt = 1000) c24549
    refine lv_iconst (v := (-1)) hx hb dX11_feed_13 (by decide) ?_
    exact t_iret hQ X hT (⟨(by decide), hfr⟩) (Nat.le_of_ble_eq_true rfl) (Nat.le_of_ble_eq_true rfl) dX11_feed_14
