set_option maxHeartbeats 4000000 in
set_option maxRecDepth 100000 in
theorem kt362_X11_costs (l : Launch) (G : KG) (tag : Nat → Nat) (L : List Nat) (Fo : Nat → va_E) (ho : okT G ttC tag L Fo) (p0 : Nat) (p1 : Int32) (p2 : Int32) (m0 : p0 ∈ L) (g0 : tag p0 = 26) : TMi l yX11_costs cX11_costs 3 (some .int) { frames := 2, cells := 0, slots := 0, locals := 46 } G ttC tag L Fo [.ref p0, .int p1, .int p2] (fun r F1 => ((-2147483648) ≤ r.toInt ∧ r.toInt ≤ 2147483647) ∧ ((∀ b j : Nat, (tag b ≠ 26 ∨ j ≠ 13) → fld F1 b j = fld Fo b j) ∧ EF tag F1 Fo)) := by
  refine t_bodyi (y := yX11_costs) (cd := cX11_costs) (mL := 3) (rt := (some .int)) (rm := { frames := 2, cells := 0, slots := 0, locals := 46 }) (av := [.ref p0, .int p1, .int p2]) (by decide) (Nat.le_of_ble_eq_true rfl) ho ?_
  intro p e s m args below meth c ls A Q hQ X hT hl
  have hx := X.1.1
  have hb := X.1.2.1
  have hl : lv_has ls 3 [(0, .ref p0), (1, .int p1), (2, .int p2)] := hl
  have rp1 := rg_all p1
  have rp2 := rg_all p2
  obtain ⟨F, hFo⟩ : ∃ F : Nat → va_E, F = Fo := ⟨_, rfl⟩
  rw [← hFo] at hT
  have hfr : (∀ b j : Nat, (tag b ≠ 26 ∨ j ≠ 13) → fld F b j = fld Fo b j) ∧ EF tag F Fo := by
    rw [hFo]
    exact ⟨by intros; rfl, fun _ _ _ => rfl⟩
  have K16 : ∀  (F : Nat → va_E) (H : Heap) (locs : List Loc) (ls : Array Slot), TH G ttC A s tag L F H locs → ((∀ b j : Nat, (tag b ≠ 26 ∨ j ≠ 13) → fld F b j = fld Fo b j) ∧ EF tag F Fo) → lv_has ls 3 [(0, .ref p0), (1, .int p1), (2, .int p2)] → W p l e { frames := 2, cells := 0, slots := 0, locals := 46 } s m args below meth c H locs 0 0 Q (F0 m 16 ls []) := by
    intro F H locs ls hT hfr hl
    refine lv_aload_n hx hb dX11_costs_16 rfl (lv_at hl 0 rfl) ?_
    refine lv_iconst (v := 1) hx hb dX11_costs_17 (by decide) ?_
    refine t_cVi (n := 1) (C := RX11) (T := TX11) (N := 16) (As := [.int 1]) (rest := []) X hT (kt357_X11_refuse l G tag L F hT.2.2.2 p0 1 m0 g0) m0 g0 rfl rfl qw_152 qw_153 qw_154 qw_2 qw_155 ⟨rfl, by decide +kernel, by decide +kernel, by decide +kernel⟩ ⟨Nat.le_of_ble_eq_true rfl, Nat.le_of_ble_eq_true rfl⟩ hl rfl rfl (Nat.le_of_ble_eq_true rfl) dX11_costs_18 ⟨Nat.le_of_ble_eq_true rfl, Nat.le_of_ble_eq_true rfl⟩ (fun z108425 F H locs hT hz108425 => ?_)
    obtain ⟨hz108425, yz108425⟩ := hz108425
    have hfr : (∀ b j : Nat, (tag b ≠ 26 ∨ j ≠ 13) → fld F b j = fld Fo b j) ∧ EF tag F Fo := ⟨fun b j n26_13 => (yz108425.1 b j n26_13).trans (hfr.1 b j n26_13), fun b j hb => (yz108425.2 b j hb).trans (hfr.2 b j hb)⟩
    exact t_iret hQ X hT (⟨rg_all _, hfr⟩) (Nat.le_of_ble_eq_true rfl) (Nat.le_of_ble_eq_true rfl) dX11_costs_21
  refine lv_aload_n hx hb dX11_costs_0 rfl (lv_at hl 0 rfl) ?_
  refine lv_iload_n hx hb dX11_costs_1 rfl (lv_at hl 1 rfl) ?_
  refine t_cVi (n := 1) (C := RX11) (T := TX11) (N := 16) (As := [.int p1]) (rest := []) X hT (kt355_X11_isHouse l G tag L F hT.2.2.2 p0 p1 m0 g0) m0 g0 rfl rfl qw_770 qw_771 qw_772 qw_2 qw_773 ⟨rfl, by decide +kernel, by decide +kernel, by decide +kernel⟩ ⟨Nat.le_of_ble_eq_true rfl, Nat.le_of_ble_eq_true rfl⟩ hl rfl rfl (Nat.le_of_ble_eq_true rfl) dX11_costs_2 ⟨Nat.le_of_ble_eq_true rfl, Nat.le_of_ble_eq_true rfl⟩ (fun z108426 F9 H locs hT hz108426 => ?_)
  obtain ⟨fz108426, hz108426⟩ := hz108426
  rw [fz108426] at hT
  obtain ⟨hz108426, iz108426⟩ := hz108426
  refine lv_if_eq (tgt := 16) hx hb dX11_costs_5 (by decide) (fun c108427 => ?_) (fun c108427 => ?_)
  · have w108428 := cv_eq (rfl : z108426.toInt = z108426.toInt) (by decide : (0 : Int32).toInt = 0) c108427
    exact K16  _ _ _ _  hT hfr  (lv_sub hl [0, 1, 2] rfl)
  · have w108429 := cv_ne (rfl : z108426.toInt = z108426.toInt) (by decide : (0 : Int32).toInt = 0) c108427
    have w108430 := (fun h => (iz108426 h)) (by omega)
    refine lv_aload_n hx hb dX11_costs_8 rfl (lv_at hl 0 rfl) ?_
    refine lv_iload_n hx hb dX11_costs_9 rfl (lv_at hl 2 rfl) ?_
    refine t_cVi (n := 1) (C := RX11) (T := TX11) (N := 16) (As := [.int p2]) (rest := []) X hT (kt359_X11_isStone l G tag L F hT.2.2.2 p0 p2 m0 g0) m0 g0 rfl rfl qw_954 qw_955 qw_956 qw_2 qw_957 ⟨rfl, by decide +kernel, by decide +kernel, by decide +kernel⟩ ⟨Nat.le_of_ble_eq_true rfl, Nat.le_of_ble_eq_true rfl⟩ hl rfl rfl (Nat.le_of_ble_eq_true rfl) dX11_costs_10 ⟨Nat.le_of_ble_eq_true rfl, Nat.le_of_ble_eq_true rfl⟩ (fun z108431 F9 H locs hT hz108431 => ?_)
    obtain ⟨fz108431, hz108431⟩ := hz108431
    rw [fz108431] at hT
    refine lv_if_ne (tgt := 22) hx hb dX11_costs_13 (by decide) (fun c108432 => ?_) (fun c108432 => ?_)
    · have w108433 := cv_ne (rfl : z108431.toInt = z108431.toInt) (by decide : (0 : Int32).toInt = 0) c108432
      refine lv_aload_n hx hb dX11_costs_22 rfl (lv_at hl 0 rfl) ?_
      refine t_get (C := RX11) (T := TX11) (N := 16) X hT m0 g0 rfl rfl 5 (by decide) qw_23 inlX11 rfl dX11_costs_23 (fun v108434 hv108434 ov108434 => ?_)
      obtain ⟨b108435, rfl, mb108435, gb108435⟩ := okV_r ov108434
      have gb108435 : tag b108435 = 19 := tg_of gb108435
      refine t_get (C := RX7) (T := TX7) (N := 7) X hT mb108435 gb108435 rfl rfl 2 (by decide) qw_766 inlX7 rfl dX11_costs_26 (fun v108436 hv108436 ov108436 => ?_)
      obtain ⟨b108437, rfl, mb108437, gb108437⟩ := okV_r ov108436
      have gb108437 : tag b108437 = 8 := tg_of gb108437
      refine lv_iload_n hx hb dX11_costs_29 rfl (lv_at hl 1 rfl) ?_
      refine t_ild X hT mb108437 gb108437 rfl (by omega) dX11_costs_30 (fun z108438 vz108438 rz108438 => ?_)
      have rz108438 : 0 ≤ z108438.toInt ∧ z108438.toInt ≤ 6 := rz108438
      refine lv_bipush (v := 6) hx hb dX11_costs_31 (by decide) ?_
      refine lv_icmp_lt (tgt := 42) hx hb dX11_costs_33 (by decide) (fun c108439 => ?_) (fun c108439 => ?_)
      · have w108440 := cv_lt (rfl : z108438.toInt = z108438.toInt) (by decide : (6 : Int32).toInt = 6) c108439
        refine lv_aload_n hx hb dX11_costs_42 rfl (lv_at hl 0 rfl) ?_
        refine lv_aload_n hx hb dX11_costs_43 rfl (lv_at hl 0 rfl) ?_
        refine t_get (C := RX11) (T := TX11) (N := 16) X hT m0 g0 rfl rfl 3 (by decide) qw_18 inlX11 rfl dX11_costs_44 (fun v108441 hv108441 ov108441 => ?_)
        obtain ⟨b108442, rfl, mb108442, gb108442⟩ := okV_r ov108441
        have gb108442 : tag b108442 = 18 := tg_of gb108442
        refine lv_aload_n hx hb dX11_costs_47 rfl (lv_at hl 0 rfl) ?_
        refine t_get (C := RX11) (T := TX11) (N := 16) X hT m0 g0 rfl rfl 5 (by decide) qw_23 inlX11 rfl dX11_costs_48 (fun v108443 hv108443 ov108443 => ?_)
        obtain rfl : v108443 = .ref b108435 := hv108443.symm.trans hv108434
        refine lv_iload_n hx hb dX11_costs_51 rfl (lv_at hl 1 rfl) ?_
        refine lv_iload_n hx hb dX11_costs_52 rfl (lv_at hl 2 rfl) ?_
        refine t_cSi (n := 4) (As := [.ref b108442, .ref b108435, .int p1, .int p2]) (rest := [.ref p0]) X hT (kt327_X6_priceOf l G tag L F hT.2.2.2 b108442 b108435 p1 p2 mb108442 gb108442 mb108435 gb108435 (by omega)) qw_959 qw_960 qw_380 qw_961 ⟨by decide +kernel, by decide +kernel, by decide +kernel⟩ ⟨Nat.le_of_ble_eq_true rfl, Nat.le_of_ble_eq_true rfl⟩ hl rfl rfl (Nat.le_of_ble_eq_true rfl) dX11_costs_53 ⟨Nat.le_of_ble_eq_true rfl, Nat.le_of_ble_eq_true rfl⟩ (fun z108444 F9 H locs hT hz108444 => ?_)
        obtain ⟨fz108444, hz108444⟩ := hz108444
        rw [fz108444] at hT
        refine t_cVi (n := 1) (C := RX11) (T := TX11) (N := 16) (As := [.int z108444]) (rest := []) X hT (kt350_X11_answer l G tag L F hT.2.2.2 p0 z108444 m0 g0) m0 g0 rfl rfl qw_463 qw_464 qw_465 qw_2 qw_466 ⟨rfl, by decide +kernel, by decide +kernel, by decide +kernel⟩ ⟨Nat.le_of_ble_eq_true rfl, Nat.le_of_ble_eq_true rfl⟩ hl rfl rfl (Nat.le_of_ble_eq_true rfl) dX11_costs_56 ⟨Nat.le_of_ble_eq_true rfl, Nat.le_of_ble_eq_true rfl⟩ (fun z108445 F H locs hT hz108445 => ?_)
        obtain ⟨hz108445, yz108445⟩ := hz108445
        have hv108434 := (yz108445.1 _ 5 (Or.inr (by decide))).trans hv108434
        have hv108436 := (yz108445.1 _ 2 (Or.inr (by decide))).trans hv108436
        have hv108441 := (yz108445.1 _ 3 (Or.inr (by decide))).trans hv108441
        have hfr : (∀ b j : Nat, (tag b ≠ 26 ∨ j ≠ 13) → fld F b j = fld Fo b j) ∧ EF tag F Fo := ⟨fun b j n26_13 => (yz108445.1 b j n26_13).trans (hfr.1 b j n26_13), fun b j hb => (yz108445.2 b j hb).trans (hfr.2 b j hb)⟩
        exact t_iret hQ X hT (⟨rg_all _, hfr⟩) (Nat.le_of_ble_eq_true rfl) (Nat.le_of_ble_eq_true rfl) dX11_costs_59
      · have w108446 := cv_nlt (rfl : z108438.toInt = z108438.toInt) (by decide : (6 : Int32).toInt = 6) c108439
        refine lv_aload_n hx hb dX11_costs_36 rfl (lv_at hl 0 rfl) ?_
        refine lv_iconst (v := 3) hx hb dX11_costs_37 (by decide) ?_
        refine t_cVi (n := 1) (C := RX11) (T := TX11) (N := 16) (As := [.int 3]) (rest := []) X hT (kt357_X11_refuse l G tag L F hT.2.2.2 p0 3 m0 g0) m0 g0 rfl rfl qw_152 qw_153 qw_154 qw_2 qw_155 ⟨rfl, by decide +kernel, by decide +kernel, by decide +kernel⟩ ⟨Nat.le_of_ble_eq_true rfl, Nat.le_of_ble_eq_true rfl⟩ hl rfl rfl (Nat.le_of_ble_eq_true rfl) dX11_costs_38 ⟨Nat.le_of_ble_eq_true rfl, Nat.le_of_ble_eq_true rfl⟩ (fun z108447 F H locs hT hz108447 => ?_)
        obtain ⟨hz108447, yz108447⟩ := hz108447
        have hv108434 := (yz108447.1 _ 5 (Or.inr (by decide))).trans hv108434
        have hv108436 := (yz108447.1 _ 2 (Or.inr (by decide))).trans hv108436
        have hfr : (∀ b j : Nat, (tag b ≠ 26 ∨ j ≠ 13) → fld F b j = fld Fo b j) ∧ EF tag F Fo := ⟨fun b j n26_13 => (yz108447.1 b j n26_13).trans (hfr.1 b j n26_13), fun b j hb => (yz108447.2 b j hb).trans (hfr.2 b j hb)⟩
        exact t_iret hQ X hT (⟨rg_all _, hfr⟩) (Nat.le_of_ble_eq_true rfl) (Nat.le_of_ble_eq_true rfl) dX11_costs_41
    · have w108448 := cv_eq (rfl : z108431.toInt = z108431.toInt) (by decide : (0 : Int32).toInt = 0) c108432
      exact K16  _ _ _ _  hT hfr  (lv_sub hl [0, 1, 2] rfl)
set_option maxHeartbeats 4000000 in
set_option maxRecDepth 100000 in
theorem kt363_X11_door (l : Launch) (G : KG) (tag : Nat → Nat) (L : List Nat) (Fo : Nat → va_E) (ho : okT G ttC tag L Fo) (p0 : Nat) (p1 : Int32) (m0 : p0 ∈ L) (g0 : tag p0 = 26) : TMi l yX11_door cX11_door 2 (some .int) { frames := 4, cells := 0, slots := 0, locals := 108 } G ttC tag L Fo [.ref p0, .int p1] (fun r F1 => ((-2147483648) ≤ r.toInt ∧ r.toInt ≤ 2147483647) ∧ ((∀ b j : Nat, (tag b ≠ 26 ∨ j ≠ 13) → fld F1 b j = fld Fo b j) ∧ EF tag F1 Fo)) := by
  refine t_bodyi (y := yX11_door) (cd := cX11_door) (mL := 2) (rt := (some .int)) (rm := { frames := 4, cells := 0, slots := 0, locals := 108 }) (av := [.ref p0, .int p1]) (by decide) (Nat.le_of_ble_eq_true rfl) ho ?_
  intro p e s m args below meth c ls A Q hQ X hT hl
  have hx := X.1.1
  have hb := X.1.2.1
  have hl : lv_has ls 2 [(0, .ref p0), (1, .int p1)] := hl
  have rp1 := rg_all p1
  obtain ⟨F, hFo⟩ : ∃ F : Nat → va_E, F = Fo := ⟨_, rfl⟩
  rw [← hFo] at hT
  have hfr : (∀ b j : Nat, (tag b ≠ 26 ∨ j ≠ 13) → fld F b j = fld Fo b j) ∧ EF tag F Fo := by
    rw [hFo]
    exact ⟨by intros; rfl, fun _ _ _ => rfl⟩
  have K47 : ∀ (z108670 : Int32) (b108671 : Nat) (F : Nat → va_E) (H : Heap) (locs : List Loc) (ls : Array Slot), ((-2) ≤ z108670.toInt ∧ z108670.toInt ≤ 900) → (b108671 ∈ L) → (tag b108671 = 26) → (0 ≤ p1.toInt ∧ p1.toInt ≤ 3) → TH G ttC A s tag L F H locs → ((∀ b j : Nat, (tag b ≠ 26 ∨ j ≠ 13) → fld F b j = fld Fo b j) ∧ EF tag F Fo) → lv_has ls 2 [(0, .ref p0), (1, .int p1)] → W p l e { frames := 4, cells := 0, slots := 0, locals := 108 } s m args below meth c H locs 0 0 Q (F0 m 47 ls [.int z108670, .ref b108671]) := by
    intro z108670 b108671 F H locs ls rz108670 mb108671 gb108671 r9s108669 hT hfr hl
    refine t_cVi (n := 1) (C := RX11) (T := TX11) (N := 16) (As := [.int z108670]) (rest := []) X hT (kt350_X11_answer l G tag L F hT.2.2.2 b108671 z108670 mb108671 gb108671) mb108671 gb108671 rfl rfl qw_463 qw_464 qw_465 qw_2 qw_466 ⟨rfl, by decide +kernel, by decide +kernel, by decide +kernel⟩ ⟨Nat.le_of_ble_eq_true rfl, Nat.le_of_ble_eq_true rfl⟩ hl rfl rfl (Nat.le_of_ble_eq_true rfl) dX11_door_47 ⟨Nat.le_of_ble_eq_true rfl, Nat.le_of_ble_eq_true rfl⟩ (fun z108672 F H locs hT hz108672 => ?_)
    obtain ⟨hz108672, yz108672⟩ := hz108672
    have hfr : (∀ b j : Nat, (tag b ≠ 26 ∨ j ≠ 13) → fld F b j = fld Fo b j) ∧ EF tag F Fo := ⟨fun b j n26_13 => (yz108672.1 b j n26_13).trans (hfr.1 b j n26_13), fun b j hb => (yz108672.2 b j hb).trans (hfr.2 b j hb)⟩
    exact t_iret hQ X hT (⟨rg_all _, hfr⟩) (Nat.le_of_ble_eq_true rfl) (Nat.le_of_ble_eq_true rfl) dX11_door_50
  refine lv_aload_n hx hb dX11_door_0 rfl (lv_at hl 0 rfl) ?_
  refine lv_iload_n hx hb dX11_door_1 rfl (lv_at hl 1 rfl) ?_
  refine t_cVi (n := 1) (C := RX11) (T := TX11) (N := 16) (As := [.int p1]) (rest := []) X hT (kt355_X11_isHouse l G tag L F hT.2.2.2 p0 p1 m0 g0) m0 g0 rfl rfl qw_770 qw_771 qw_772 qw_2 qw_773 ⟨rfl, by decide +kernel, by decide +kernel, by decide +kernel⟩ ⟨Nat.le_of_ble_eq_true rfl, Nat.le_of_ble_eq_true rfl⟩ hl rfl rfl (Nat.le_of_ble_eq_true rfl) dX11_door_2 ⟨Nat.le_of_ble_eq_true rfl, Nat.le_of_ble_eq_true rfl⟩ (fun z108673 F9 H locs hT hz108673 => ?_)
  obtain ⟨fz108673, hz108673⟩ := hz108673
  rw [fz108673] at hT
  obtain ⟨hz108673, iz108673⟩ := hz108673
  refine lv_if_ne (tgt := 14) hx hb dX11_door_5 (by decide) (fun c108674 => ?_) (fun c108674 => ?_)
  · have w108675 := cv_ne (rfl : z108673.toInt = z108673.toInt) (by decide : (0 : Int32).toInt = 0) c108674
    have w108676 := (fun h => (iz108673 h)) (by omega)
    refine lv_aload_n hx hb dX11_door_14 rfl (lv_at hl 0 rfl) ?_
    refine lv_aload_n hx hb dX11_door_15 rfl (lv_at hl 0 rfl) ?_
    refine t_get (C := RX11) (T := TX11) (N := 16) X hT m0 g0 rfl rfl 3 (by decide) qw_18 inlX11 rfl dX11_door_16 (fun v108677 hv108677 ov108677 => ?_)
    obtain ⟨b108678, rfl, mb108678, gb108678⟩ := okV_r ov108677
    have gb108678 : tag b108678 = 18 := tg_of gb108678
    refine lv_aload_n hx hb dX11_door_19 rfl (lv_at hl 0 rfl) ?_
    refine t_get (C := RX11) (T := TX11) (N := 16) X hT m0 g0 rfl rfl 5 (by decide) qw_23 inlX11 rfl dX11_door_20 (fun v108679 hv108679 ov108679 => ?_)
    obtain ⟨b108680, rfl, mb108680, gb108680⟩ := okV_r ov108679
    have gb108680 : tag b108680 = 19 := tg_of gb108680
    refine lv_iload_n hx hb dX11_door_23 rfl (lv_at hl 1 rfl) ?_
    refine t_cSi (n := 3) (As := [.ref b108678, .ref b108680, .int p1]) (rest := [.ref p0]) X hT (kt325_X6_isFit l G tag L F hT.2.2.2 b108678 b108680 p1 mb108678 gb108678 mb108680 gb108680 (by omega)) qw_904 qw_403 qw_380 qw_404 ⟨by decide +kernel, by decide +kernel, by decide +kernel⟩ ⟨Nat.le_of_ble_eq_true rfl, Nat.le_of_ble_eq_true rfl⟩ hl rfl rfl (Nat.le_of_ble_eq_true rfl) dX11_door_24 ⟨Nat.le_of_ble_eq_true rfl, Nat.le_of_ble_eq_true rfl⟩ (fun z108681 F9 H locs hT hz108681 => ?_)
    obtain ⟨fz108681, hz108681⟩ := hz108681
    rw [fz108681] at hT
    refine lv_if_eq (tgt := 45) hx hb dX11_door_27 (by decide) (fun c108682 => ?_) (fun c108682 => ?_)
    · have w108683 := cv_eq (rfl : z108681.toInt = z108681.toInt) (by decide : (0 : Int32).toInt = 0) c108682
      refine lv_bipush (v := (-2)) hx hb dX11_door_45 (by decide) ?_
      exact K47 (-2) p0 _ _ _ _ (by decide) m0 g0 (by omega) hT hfr  (lv_sub hl [0, 1] rfl)
    · have w108684 := cv_ne (rfl : z108681.toInt = z108681.toInt) (by decide : (0 : Int32).toInt = 0) c108682
      refine lv_aload_n hx hb dX11_door_30 rfl (lv_at hl 0 rfl) ?_
      refine t_get (C := RX11) (T := TX11) (N := 16) X hT m0 g0 rfl rfl 3 (by decide) qw_18 inlX11 rfl dX11_door_31 (fun v108685 hv108685 ov108685 => ?_)
      obtain rfl : v108685 = .ref b108678 := hv108685.symm.trans hv108677
      refine lv_aload_n hx hb dX11_door_34 rfl (lv_at hl 0 rfl) ?_
      refine t_get (C := RX11) (T := TX11) (N := 16) X hT m0 g0 rfl rfl 5 (by decide) qw_23 inlX11 rfl dX11_door_35 (fun v108686 hv108686 ov108686 => ?_)
      obtain rfl : v108686 = .ref b108680 := hv108686.symm.trans hv108679
      refine lv_iload_n hx hb dX11_door_38 rfl (lv_at hl 1 rfl) ?_
      refine t_cSi (n := 3) (As := [.ref b108678, .ref b108680, .int p1]) (rest := [.ref p0]) X hT (kt338_X6_lawDoor l G tag L F hT.2.2.2 b108678 b108680 p1 mb108678 gb108678 mb108680 gb108680 (by omega)) qw_913 qw_914 qw_380 qw_915 ⟨by decide +kernel, by decide +kernel, by decide +kernel⟩ ⟨Nat.le_of_ble_eq_true rfl, Nat.le_of_ble_eq_true rfl⟩ hl rfl rfl (Nat.le_of_ble_eq_true rfl) dX11_door_39 ⟨Nat.le_of_ble_eq_true rfl, Nat.le_of_ble_eq_true rfl⟩ (fun z108687 F9 H locs hT hz108687 => ?_)
      obtain ⟨fz108687, hz108687⟩ := hz108687
      rw [fz108687] at hT
      refine lv_goto (tgt := 47) hx hb dX11_door_42 (by decide) ?_
      exact K47 z108687 p0 _ _ _ _ (by omega) m0 g0 (by omega) hT hfr  (lv_sub hl [0, 1] rfl)
  · have w108688 := cv_eq (rfl : z108673.toInt = z108673.toInt) (by decide : (0 : Int32).toInt = 0) c108674
    refine lv_aload_n hx hb dX11_door_8 rfl (lv_at hl 0 rfl) ?_
    refine lv_iconst (v := 1) hx hb dX11_door_9 (by decide) ?_
    refine t_cVi (n := 1) (C := RX11) (T := TX11) (N := 16) (As := [.int 1]) (rest := []) X hT (kt357_X11_refuse l G tag L F hT.2.2.2 p0 1 m0 g0) m0 g0 rfl rfl qw_152 qw_153 qw_154 qw_2 qw_155 ⟨rfl, by decide +kernel, by decide +kernel, by decide +kernel⟩ ⟨Nat.le_of_ble_eq_true rfl, Nat.le_of_ble_eq_true rfl⟩ hl rfl rfl (Nat.le_of_ble_eq_true rfl) dX11_door_10 ⟨Nat.le_of_ble_eq_true rfl, Nat.le_of_ble_eq_true rfl⟩ (fun z108689 F H locs hT hz108689 => ?_)
    obtain ⟨hz108689, yz108689⟩ := hz108689
    have hfr : (∀ b j : Nat, (tag b ≠ 26 ∨ j ≠ 13) → fld F b j = fld Fo b j) ∧ EF tag F Fo := ⟨fun b j n26_13 => (yz108689.1 b j n26_13).trans (hfr.1 b j n26_13), fun b j hb => (yz108689.2 b j hb).trans (hfr.2 b j hb)⟩
    exact t_iret hQ X hT (⟨rg_all _, hfr⟩) (Nat.le_of_ble_eq_true rfl) (Nat.le_of_ble_eq_true rfl) dX11_door_13
set_option maxHeartbeats 4000000 in
set_option maxRecDepth 100000 in
theorem kt364_X11_isSkin (l : Launch) (G : KG) (tag : Nat → Nat) (L : List Nat) (F : Nat → va_E) (ho : okT G ttC tag L F) (p0 : Nat) (p1 : Int32) (p2 : Int32) (m0 : p0 ∈ L) (g0 : tag p0 = 26) : TMi l yX11_isSkin cX11_isSkin 3 (some .boolean) { frames := 2, cells := 0, slots := 0, locals := 43 } G ttC tag L F [.ref p0, .int p1, .int p2] (fun r F1 => F1 = F ∧ ((0 ≤ r.toInt ∧ r.toInt ≤ 1) ∧ (r.toInt ≠ 0 → (0 ≤ p1.toInt ∧ p1.toInt ≤ 3) ∧ (1 ≤ p2.toInt ∧ p2.toInt ≤ 6)))) := by
  refine t_bodyi (y := yX11_isSkin) (cd := cX11_isSkin) (mL := 3) (rt := (some .boolean)) (rm := { frames := 2, cells := 0, slots := 0, locals := 43 }) (av := [.ref p0, .int p1, .int p2]) (by decide) (Nat.le_of_ble_eq_true rfl) ho ?_
  intro p e s m args below meth c ls A Q hQ X hT hl
  have hx := X.1.1
  have hb := X.1.2.1
  have hl : lv_has ls 3 [(0, .ref p0), (1, .int p1), (2, .int p2)] := hl
  have rp1 := rg_all p1
  have rp2 := rg_all p2
  refine lv_iload_n hx hb dX11_isSkin_0 rfl (lv_at hl 2 rfl) ?_
  refine lv_if_le (tgt := 17) hx hb dX11_isSkin_1 (by decide) (fun c108789 => ?_) (fun c108789 => ?_)
  · have w108790 := cv_le (rfl : p2.toInt = p2.toInt) (by decide : (0 : Int32).toInt = 0) c108789
    refine lv_iconst (v := 0) hx hb dX11_isSkin_17 (by decide) ?_
    exact t_zret hQ X hT (by decide) (⟨rfl, ⟨(by decide), fun h => absurd (by decide) h⟩⟩) (Nat.le_of_ble_eq_true rfl) (Nat.le_of_ble_eq_true rfl) dX11_isSkin_18
  · have w108791 := cv_nle (rfl : p2.toInt = p2.toInt) (by decide : (0 : Int32).toInt = 0) c108789
    refine lv_aload_n hx hb dX11_isSkin_4 rfl (lv_at hl 0 rfl) ?_
    refine lv_iload_n hx hb dX11_isSkin_5 rfl (lv_at hl 1 rfl) ?_
    refine lv_iload_n hx hb dX11_isSkin_6 rfl (lv_at hl 2 rfl) ?_
    refine t_cVi (n := 2) (C := RX11) (T := TX11) (N := 16) (As := [.int p1, .int p2]) (rest := []) X hT (kt356_X11_isRoom l G tag L F hT.2.2.2 p0 p1 p2 m0 g0) m0 g0 rfl rfl qw_827 qw_828 qw_829 qw_2 qw_830 ⟨rfl, by decide +kernel, by decide +kernel, by decide +kernel⟩ ⟨Nat.le_of_ble_eq_true rfl, Nat.le_of_ble_eq_true rfl⟩ hl rfl rfl (Nat.le_of_ble_eq_true rfl) dX11_isSkin_7 ⟨Nat.le_of_ble_eq_true rfl, Nat.le_of_ble_eq_true rfl⟩ (fun z108792 F9 H locs hT hz108792 => ?_)
    obtain ⟨fz108792, hz108792⟩ := hz108792
    rw [fz108792] at hT
    obtain ⟨hz108792, iz108792⟩ := hz108792
    refine lv_if_eq (tgt := 17) hx hb dX11_isSkin_10 (by decide) (fun c108793 => ?_) (fun c108793 => ?_)
    · have w108794 := cv_eq (rfl : z108792.toInt = z108792.toInt) (by decide : (0 : Int32).toInt = 0) c108793
      refine lv_iconst (v := 0) hx hb dX11_isSkin_17 (by decide) ?_
      exact t_zret hQ X hT (by decide) (⟨rfl, ⟨(by decide), fun h => absurd (by decide) h⟩⟩) (Nat.le_of_ble_eq_true rfl) (Nat.le_of_ble_eq_true rfl) dX11_isSkin_18
    · have w108795 := cv_ne (rfl : z108792.toInt = z108792.toInt) (by decide : (0 : Int32).toInt = 0) c108793
      have w108796 := (fun h => (iz108792 h).1) (by omega)
      have w108797 := (fun h => (iz108792 h).2) (by omega)
      refine lv_iconst (v := 1) hx hb dX11_isSkin_13 (by decide) ?_
      refine lv_goto (tgt := 18) hx hb dX11_isSkin_14 (by decide) ?_
      exact t_zret hQ X hT (by decide) (⟨rfl, ⟨(by decide), fun _ => ⟨by omega, by omega⟩⟩⟩) (Nat.le_of_ble_eq_true rfl) (Nat.le_of_ble_eq_true rfl) dX11_isSkin_18
set_option maxHeartbeats 4000000 in
set_option maxRecDepth 100000 in
theorem kt365_X10_pass (l : Launch) (G : KG) (tag : Nat → Nat) (L : List Nat) (Fo : Nat → va_E) (ho : okT G ttC tag L Fo) (p0 : Nat) (p1 : Nat) (m0 : p0 ∈ L) (g0 : tag p0 = 18) (m1 : p1 ∈ L) (g1 : tag p1 = 19) : TMv l yX10_pass cX10_pass 5 { frames := 5, cells := 0, slots := 0, locals := 133 } G ttC tag L Fo [.ref p0, .ref p1, .ref (G.2 13)] (fun F1 => ((∀ b j : Nat, (tag b ≠ 19 ∨ j ≠ 0) → (tag b ≠ 19 ∨ j ≠ 1) → fld F1 b j = fld Fo b j) ∧ EF tag F1 Fo)) := by
  refine t_bodyv (y := yX10_pass) (cd := cX10_pass) (mL := 5) (rm := { frames := 5, cells := 0, slots := 0, locals := 133 }) (av := [.ref p0, .ref p1, .ref (G.2 13)]) (by decide) (Nat.le_of_ble_eq_true rfl) ho ?_
  intro p e s m args below meth c ls A Q hQ X hT hl
  have hx := X.1.1
  have hb := X.1.2.1
  have hl : lv_has ls 5 [(0, .ref p0), (1, .ref p1), (2, .ref (G.2 13))] := hl
  obtain ⟨F, hFo⟩ : ∃ F : Nat → va_E, F = Fo := ⟨_, rfl⟩
  rw [← hFo] at hT
  have hfr : (∀ b j : Nat, (tag b ≠ 19 ∨ j ≠ 0) → (tag b ≠ 19 ∨ j ≠ 1) → fld F b j = fld Fo b j) ∧ EF tag F Fo := by
    rw [hFo]
    exact ⟨by intros; rfl, fun _ _ _ => rfl⟩
  have K51 : ∀ (z109295 : Int32) (z109296 : Int32) (F : Nat → va_E) (H : Heap) (locs : List Loc) (ls : Array Slot), (0 ≤ z109295.toInt ∧ z109295.toInt ≤ 4) → (0 ≤ z109296.toInt ∧ z109296.toInt ≤ 4) → TH G ttC A s tag L F H locs → ((∀ b j : Nat, (tag b ≠ 19 ∨ j ≠ 0) → (tag b ≠ 19 ∨ j ≠ 1) → fld F b j = fld Fo b j) ∧ EF tag F Fo) → fld F p0 10 = .int z109296 → lv_has ls 5 [(0, .ref p0), (1, .ref p1), (2, .ref (G.2 13)), (3, .int z109295)] → W p l e { frames := 5, cells := 0, slots := 0, locals := 133 } s m args below meth c H locs 0 0 Q (F0 m 51 ls []) := by
    intro z109295 z109296 F H locs ls rz109295 rz109296 hT hfr qz109296 hl
    refine lv_aload_n hx hb dX10_pass_51 rfl (lv_at hl 1 rfl) ?_
    refine lv_dup hx hb dX10_pass_52 rfl ?_
    refine t_get (C := RX7) (T := TX7) (N := 7) X hT m1 g1 rfl rfl 0 (by decide) qw_1102 inlX7 rfl dX10_pass_53 (fun v109297 hv109297 ov109297 => ?_)
    obtain ⟨z109298, rfl, rz109298⟩ := okV_i ov109297
    refine lv_iconst (v := 1) hx hb dX10_pass_56 (by decide) ?_
    refine lv_iadd hx hb dX10_pass_57 ?_
    refine lv_topi (fun z109299 ez109299 => ?_)
    have rz109299 := rg_all z109299
    refine t_put (C := RX7) (T := TX7) (N := 7) (v := .int z109299) X hT m1 g1 rfl tyX7 tyX7_ok nmX7 rfl 0 (by decide) qw_1102 inlX7 rfl (by first | rfl | decide) (by first | rfl | decide) rfl (⟨_, rfl, (show (-2147483648) ≤ (z109299 : Int32).toInt from (by omega)), (show (z109299 : Int32).toInt ≤ 2147483647 from (by omega))⟩) dX10_pass_58 (fun F H locs hT v109300 h1v109300 h2v109300 => ?_)
    have qz109296 := (h1v109300 _ _ (Or.inr (by decide))).trans qz109296
    have hfr : (∀ b j : Nat, (tag b ≠ 19 ∨ j ≠ 0) → (tag b ≠ 19 ∨ j ≠ 1) → fld F b j = fld Fo b j) ∧ EF tag F Fo := ⟨fun b j n19_0 n19_1 => (h1v109300 b j (fr_ne g1 n19_0)).trans (hfr.1 b j n19_0 n19_1), fun b j hb => (h2v109300 b j).trans (hfr.2 b j hb)⟩
    exact t_vret hQ X hT hfr (Nat.le_of_ble_eq_true rfl) (Nat.le_of_ble_eq_true rfl) dX10_pass_61
  have K2 : ∀ (n : Nat) (z109301 : Int32) (F : Nat → va_E) (H : Heap) (locs : List Loc) (ls : Array Slot), (4 - z109301.toInt < (n : Int)) → (0 ≤ z109301.toInt ∧ z109301.toInt ≤ 4) → TH G ttC A s tag L F H locs → ((∀ b j : Nat, (tag b ≠ 19 ∨ j ≠ 0) → (tag b ≠ 19 ∨ j ≠ 1) → fld F b j = fld Fo b j) ∧ EF tag F Fo) → lv_has ls 5 [(0, .ref p0), (1, .ref p1), (2, .ref (G.2 13)), (3, .int z109301)] → W p l e { frames := 5, cells := 0, slots := 0, locals := 133 } s m args below meth c H locs 0 0 Q (F0 m 2 ls []) := by
    intro n
    induction n with
    | zero =>
      intro z109301 F H locs ls hn rz109301 hT hfr hl
      exfalso
      omega
    | succ n ih2 =>
      intro z109301 F H locs ls hn rz109301 hT hfr hl
      have K45 : ∀ (z109303 : Int32) (z109304 : Int32) (F : Nat → va_E) (H : Heap) (locs : List Loc) (ls : Array Slot), (0 ≤ z109303.toInt ∧ z109303.toInt ≤ 3) → (1 ≤ z109304.toInt ∧ z109304.toInt ≤ 4) → (0 ≤ z109301.toInt ∧ z109301.toInt ≤ 3) → TH G ttC A s tag L F H locs → ((∀ b j : Nat, (tag b ≠ 19 ∨ j ≠ 0) → (tag b ≠ 19 ∨ j ≠ 1) → fld F b j = fld Fo b j) ∧ EF tag F Fo) → fld F p0 10 = .int z109304 → lv_has ls 5 [(0, .ref p0), (1, .ref p1), (2, .ref (G.2 13)), (3, .int z109301), (4, .int z109303)] → W p l e { frames := 5, cells := 0, slots := 0, locals := 133 } s m args below meth c H locs 0 0 Q (F0 m 45 ls []) := by
        intro z109303 z109304 F H locs ls rz109303 rz109304 r9s109302 hT hfr qz109304 hl
        obtain ⟨z109305, ez109305⟩ : ∃ y : Int32, y = z109301 + 1 := ⟨_, rfl⟩
        have hz109305 : z109305.toInt = z109301.toInt + 1 := ar_add ez109305 rfl (by decide : (1 : Int32).toInt = 1) (by omega) (by omega)
        refine lv_iinc (v := z109305) (lv' := [(3, .int z109305), (0, .ref p0), (1, .ref p1), (2, .ref (G.2 13)), (4, .int z109303)]) hx hb dX10_pass_45 hl (k := 3) rfl (by rw [ez109305]; rfl) (by decide) rfl (fun ls hl => ?_)
        refine lv_goto (tgt := 2) hx hb dX10_pass_48 (by decide) ?_
        exact ih2 z109305 _ _ _ _ (by omega) (by omega) hT hfr  (lv_sub hl [1, 2, 3, 0] rfl)
      refine lv_iload_n hx hb dX10_pass_2 rfl (lv_at hl 3 rfl) ?_
      refine lv_aload_n hx hb dX10_pass_3 rfl (lv_at hl 0 rfl) ?_
      refine t_get (C := RX1) (T := TX1) (N := 20) X hT m0 g0 rfl rfl 10 (by decide) qw_1100 inlX1 rfl dX10_pass_4 (fun v109306 hv109306 ov109306 => ?_)
      obtain ⟨z109307, rfl, rz109307⟩ := okV_i ov109306
      refine lv_icmp_ge (tgt := 51) hx hb dX10_pass_7 (by decide) (fun c109308 => ?_) (fun c109308 => ?_)
      · have w109309 := cv_le (rfl : z109307.toInt = z109307.toInt) (rfl : z109301.toInt = z109301.toInt) c109308
        exact K51 z109301 z109307 _ _ _ _ (by omega) (by omega) hT hfr hv109306 (lv_sub hl [0, 1, 2, 3] rfl)
      · have w109310 := cv_nle (rfl : z109307.toInt = z109307.toInt) (rfl : z109301.toInt = z109301.toInt) c109308
        refine lv_iload_n hx hb dX10_pass_10 rfl (lv_at hl 3 rfl) ?_
        refine lv_aload_n hx hb dX10_pass_11 rfl (lv_at hl 2 rfl) ?_
        refine t_tlen (v := 4) X hT X.2.2.2.1.2.1.2.2.2 rfl dX10_pass_12 ?_
        refine lv_icmp_ge (tgt := 51) hx hb dX10_pass_13 (by decide) (fun c109311 => ?_) (fun c109311 => ?_)
        · have w109312 := cv_le (by decide : (4 : Int32).toInt = 4) (rfl : z109301.toInt = z109301.toInt) c109311
          exfalso
          omega
        · have w109313 := cv_nle (by decide : (4 : Int32).toInt = 4) (rfl : z109301.toInt = z109301.toInt) c109311
          refine lv_aload_n hx hb dX10_pass_16 rfl (lv_at hl 2 rfl) ?_
          refine lv_iload_n hx hb dX10_pass_17 rfl (lv_at hl 3 rfl) ?_
          refine t_tild X hT X.2.2.2.1.2.1.2.2.2 (by omega) dX10_pass_18 (fun z109314 ez109314 => ?_)
          have rz109314 : 0 ≤ z109314.toInt ∧ z109314.toInt ≤ 3 := by rw [ez109314]; exact gNums_r _
          refine lv_istore (lv' := [(4, .int z109314), (0, .ref p0), (1, .ref p1), (2, .ref (G.2 13)), (3, .int z109301)]) hx hb dX10_pass_19 hl (by decide) rfl (fun ls hl => ?_)
          refine lv_aload_n hx hb dX10_pass_21 rfl (lv_at hl 2 rfl) ?_
          refine t_get (C := RX7) (T := TX7) (N := 7) X hT m1 g1 rfl rfl 3 (by decide) qw_1101 inlX7 rfl dX10_pass_22 (fun v109315 hv109315 ov109315 => ?_)
          obtain ⟨b109316, rfl, mb109316, gb109316⟩ := okV_r ov109315
          have gb109316 : tag b109316 = 5 := tg_of gb109316
          refine lv_iload hx hb dX10_pass_25 (lv_at hl 0 rfl) ?_
          refine t_ild X hT mb109316 gb109316 rfl (by omega) dX10_pass_27 (fun z109317 vz109317 rz109317 => ?_)
          have rz109317 : (-2147483648) ≤ z109317.toInt ∧ z109317.toInt ≤ 2147483647 := rz109317
          refine lv_if_le (tgt := 45) hx hb dX10_pass_28 (by decide) (fun c109318 => ?_) (fun c109318 => ?_)
          · have w109319 := cv_le (rfl : z109317.toInt = z109317.toInt) (by decide : (0 : Int32).toInt = 0) c109318
            exact K45 z109314 z109307 _ _ _ _ (by omega) (by omega) (by omega) hT hfr hv109306 (lv_sub hl [1, 2, 3, 4, 0] rfl)
          · have w109320 := cv_nle (rfl : z109317.toInt = z109317.toInt) (by decide : (0 : Int32).toInt = 0) c109318
            refine lv_aload_n hx hb dX10_pass_31 rfl (lv_at hl 1 rfl) ?_
            refine lv_aload_n hx hb dX10_pass_32 rfl (lv_at hl 2 rfl) ?_
            refine lv_iload hx hb dX10_pass_33 (lv_at hl 0 rfl) ?_
            refine t_cSv (n := 3) (As := [.ref p0, .ref p1, .int z109314]) (rest := []) X hT (kt341_X10_liveOn l G tag L F hT.2.2.2 p0 p1 z109314 m0 g0 m1 g1 (by omega)) qw_1103 qw_1104 qw_32 qw_1105 ⟨by decide +kernel, by decide +kernel, by decide +kernel⟩ ⟨Nat.le_of_ble_eq_true rfl, Nat.le_of_ble_eq_true rfl⟩ hl rfl rfl (Nat.le_of_ble_eq_true rfl) dX10_pass_35 ⟨Nat.le_of_ble_eq_true rfl, Nat.le_of_ble_eq_true rfl⟩ (fun F H locs hT hz109321 => ?_)
            have yz109321 := hz109321
            have hv109306 := (yz109321.1 _ 10 (Or.inr (by decide))).trans hv109306
            have hv109315 := (yz109321.1 _ 3 (Or.inr (by decide))).trans hv109315
            have hfr : (∀ b j : Nat, (tag b ≠ 19 ∨ j ≠ 0) → (tag b ≠ 19 ∨ j ≠ 1) → fld F b j = fld Fo b j) ∧ EF tag F Fo := ⟨fun b j n19_0 n19_1 => (yz109321.1 b j n19_1).trans (hfr.1 b j n19_0 n19_1), fun b j hb => (yz109321.2 b j hb).trans (hfr.2 b j hb)⟩
            refine lv_aload_n hx hb dX10_pass_38 rfl (lv_at hl 1 rfl) ?_
            refine lv_aload_n hx hb dX10_pass_39 rfl (lv_at hl 2 rfl) ?_
            refine lv_iload hx hb dX10_pass_40 (lv_at hl 0 rfl) ?_
            refine t_cSv (n := 3) (As := [.ref p0, .ref p1, .int z109314]) (rest := []) X hT (kt339_X10_grow l G tag L F hT.2.2.2 p0 p1 z109314 m0 g0 m1 g1 (by omega)) qw_1128 qw_1129 qw_32 qw_1130 ⟨by decide +kernel, by decide +kernel, by decide +kernel⟩ ⟨Nat.le_of_ble_eq_true rfl, Nat.le_of_ble_eq_true rfl⟩ hl rfl rfl (Nat.le_of_ble_eq_true rfl) dX10_pass_42 ⟨Nat.le_of_ble_eq_true rfl, Nat.le_of_ble_eq_true rfl⟩ (fun F H locs hT hz109322 => ?_)
            have yz109322 := hz109322
            have hv109306 := (yz109322.1 _ 10 ).trans hv109306
            have hv109315 := (yz109322.1 _ 3 ).trans hv109315
            have hfr : (∀ b j : Nat, (tag b ≠ 19 ∨ j ≠ 0) → (tag b ≠ 19 ∨ j ≠ 1) → fld F b j = fld Fo b j) ∧ EF tag F Fo := ⟨fun b j n19_0 n19_1 => (yz109322.1 b j ).trans (hfr.1 b j n19_0 n19_1), fun b j hb => (yz109322.2 b j hb).trans (hfr.2 b j hb)⟩
            exact K45 z109314 z109307 _ _ _ _ (by omega) (by omega) (by omega) hT hfr hv109306 (lv_sub hl [1, 2, 3, 4, 0] rfl)
  refine lv_iconst (v := 0) hx hb dX10_pass_0 (by decide) ?_
  refine lv_istore_n (lv' := [(3, .int 0), (0, .ref p0), (1, .ref p1), (2, .ref (G.2 13))]) hx hb dX10_pass_1 rfl hl (by decide) rfl (fun ls hl => ?_)
  have kk109323 : (0 : Int32).toInt = 0 := by decide
  exact K2 5 0 _ _ _ _ (by omega) (by decide) hT hfr  (lv_sub hl [1, 2, 3, 0] rfl)
set_option maxHeartbeats 4000000 in
set_option maxRecDepth 100000 in
theorem kt366_X11_falls (l : Launch) (G : KG) (tag : Nat → Nat) (L : List Nat) (Fo : Nat → va_E) (ho : okT G ttC tag L Fo) (p0 : Nat) (p1 : Int32) (p2 : Int32) (p3 : Int32) (m0 : p0 ∈ L) (g0 : tag p0 = 26) : TMi l yX11_falls cX11_falls 5 (some .int) { frames := 6, cells := 0, slots := 0, locals := 157 } G ttC tag L Fo [.ref p0, .int p1, .int p2, .int p3] (fun r F1 => ((-2147483648) ≤ r.toInt ∧ r.toInt ≤ 2147483647) ∧ ((∀ b j : Nat, (tag b ≠ 19 ∨ j ≠ 0) → (tag b ≠ 19 ∨ j ≠ 1) → (tag b ≠ 26 ∨ j ≠ 13) → fld F1 b j = fld Fo b j) ∧ EF tag F1 Fo)) := by
  refine t_bodyi (y := yX11_falls) (cd := cX11_falls) (mL := 5) (rt := (some .int)) (rm := { frames := 6, cells := 0, slots := 0, locals := 157 }) (av := [.ref p0, .int p1, .int p2, .int p3]) (by decide) (Nat.le_of_ble_eq_true rfl) ho ?_
  intro p e s m args below meth c ls A Q hQ X hT hl
  have hx := X.1.1
  have hb := X.1.2.1
  have hl : lv_has ls 5 [(0, .ref p0), (1, .int p1), (2, .int p2), (3, .int p3)] := hl
  have rp1 := rg_all p1
  have rp2 := rg_all p2
  have rp3 := rg_all p3
  obtain ⟨F, hFo⟩ : ∃ F : Nat → va_E, F = Fo := ⟨_, rfl⟩
  rw [← hFo] at hT
  have hfr : (∀ b j : Nat, (tag b ≠ 19 ∨ j ≠ 0) → (tag b ≠ 19 ∨ j ≠ 1) → (tag b ≠ 26 ∨ j ≠ 13) → fld F b j = fld Fo b j) ∧ EF tag F Fo := by
    rw [hFo]
    exact ⟨by intros; rfl, fun _ _ _ => rfl⟩
  have K25 : ∀  (F : Nat → va_E) (H : Heap) (locs : List Loc) (ls : Array Slot), (0 ≤ p1.toInt ∧ p1.toInt ≤ 3) → (1 ≤ p2.toInt ∧ p2.toInt ≤ 6) → TH G ttC A s tag L F H locs → ((∀ b j : Nat, (tag b ≠ 19 ∨ j ≠ 0) → (tag b ≠ 19 ∨ j ≠ 1) → (tag b ≠ 26 ∨ j ≠ 13) → fld F b j = fld Fo b j) ∧ EF tag F Fo) → lv_has ls 5 [(0, .ref p0), (1, .int p1), (2, .int p2), (3, .int p3)] → W p l e { frames := 6, cells := 0, slots := 0, locals := 157 } s m args below meth c H locs 0 0 Q (F0 m 25 ls []) := by
    intro F H locs ls r9s109985 r9s109986 hT hfr hl
    refine lv_aload_n hx hb dX11_falls_25 rfl (lv_at hl 0 rfl) ?_
    refine lv_iconst (v := 2) hx hb dX11_falls_26 (by decide) ?_
    refine t_cVi (n := 1) (C := RX11) (T := TX11) (N := 16) (As := [.int 2]) (rest := []) X hT (kt357_X11_refuse l G tag L F hT.2.2.2 p0 2 m0 g0) m0 g0 rfl rfl qw_152 qw_153 qw_154 qw_2 qw_155 ⟨rfl, by decide +kernel, by decide +kernel, by decide +kernel⟩ ⟨Nat.le_of_ble_eq_true rfl, Nat.le_of_ble_eq_true rfl⟩ hl rfl rfl (Nat.le_of_ble_eq_true rfl) dX11_falls_27 ⟨Nat.le_of_ble_eq_true rfl, Nat.le_of_ble_eq_true rfl⟩ (fun z109987 F H locs hT hz109987 => ?_)
    obtain ⟨hz109987, yz109987⟩ := hz109987
    have hfr : (∀ b j : Nat, (tag b ≠ 19 ∨ j ≠ 0) → (tag b ≠ 19 ∨ j ≠ 1) → (tag b ≠ 26 ∨ j ≠ 13) → fld F b j = fld Fo b j) ∧ EF tag F Fo := ⟨fun b j n19_0 n19_1 n26_13 => (yz109987.1 b j n26_13).trans (hfr.1 b j n19_0 n19_1 n26_13), fun b j hb => (yz109987.2 b j hb).trans (hfr.2 b j hb)⟩
    exact t_iret hQ X hT (⟨rg_all _, hfr⟩) (Nat.le_of_ble_eq_true rfl) (Nat.le_of_ble_eq_true rfl) dX11_falls_30
  have K45 : ∀ (n : Nat) (z109991 : Int32) (F : Nat → va_E) (H : Heap) (locs : List Loc) (ls : Array Slot), (61 - z109991.toInt < (n : Int)) → (0 ≤ z109991.toInt ∧ z109991.toInt ≤ 61) → (0 ≤ p1.toInt ∧ p1.toInt ≤ 3) → (1 ≤ p2.toInt ∧ p2.toInt ≤ 6) → (0 ≤ p3.toInt ∧ p3.toInt ≤ 60) → TH G ttC A s tag L F H locs → ((∀ b j : Nat, (tag b ≠ 19 ∨ j ≠ 0) → (tag b ≠ 19 ∨ j ≠ 1) → (tag b ≠ 26 ∨ j ≠ 13) → fld F b j = fld Fo b j) ∧ EF tag F Fo) → lv_has ls 5 [(0, .ref p0), (1, .int p1), (2, .int p2), (3, .int p3), (4, .int z109991)] → W p l e { frames := 6, cells := 0, slots := 0, locals := 157 } s m args below meth c H locs 0 0 Q (F0 m 45 ls []) := by
    intro n
    induction n with
    | zero =>
      intro z109991 F H locs ls hn rz109991 r9s109988 r9s109989 r9s109990 hT hfr hl
      exfalso
      omega
    | succ n ih45 =>
      intro z109991 F H locs ls hn rz109991 r9s109988 r9s109989 r9s109990 hT hfr hl
      refine lv_iload hx hb dX11_falls_45 (lv_at hl 4 rfl) ?_
      refine lv_iload_n hx hb dX11_falls_47 rfl (lv_at hl 3 rfl) ?_
      refine lv_icmp_gt (tgt := 90) hx hb dX11_falls_48 (by decide) (fun c109992 => ?_) (fun c109992 => ?_)
      · have w109993 := cv_lt (rfl : p3.toInt = p3.toInt) (rfl : z109991.toInt = z109991.toInt) c109992
        refine lv_aload_n hx hb dX11_falls_90 rfl (lv_at hl 0 rfl) ?_
        refine lv_bipush (v := (-2)) hx hb dX11_falls_91 (by decide) ?_
        refine t_cVi (n := 1) (C := RX11) (T := TX11) (N := 16) (As := [.int (-2)]) (rest := []) X hT (kt350_X11_answer l G tag L F hT.2.2.2 p0 (-2) m0 g0) m0 g0 rfl rfl qw_463 qw_464 qw_465 qw_2 qw_466 ⟨rfl, by decide +kernel, by decide +kernel, by decide +kernel⟩ ⟨Nat.le_of_ble_eq_true rfl, Nat.le_of_ble_eq_true rfl⟩ hl rfl rfl (Nat.le_of_ble_eq_true rfl) dX11_falls_93 ⟨Nat.le_of_ble_eq_true rfl, Nat.le_of_ble_eq_true rfl⟩ (fun z109994 F H locs hT hz109994 => ?_)
        obtain ⟨hz109994, yz109994⟩ := hz109994
        have hfr : (∀ b j : Nat, (tag b ≠ 19 ∨ j ≠ 0) → (tag b ≠ 19 ∨ j ≠ 1) → (tag b ≠ 26 ∨ j ≠ 13) → fld F b j = fld Fo b j) ∧ EF tag F Fo := ⟨fun b j n19_0 n19_1 n26_13 => (yz109994.1 b j n26_13).trans (hfr.1 b j n19_0 n19_1 n26_13), fun b j hb => (yz109994.2 b j hb).trans (hfr.2 b j hb)⟩
        exact t_iret hQ X hT (⟨rg_all _, hfr⟩) (Nat.le_of_ble_eq_true rfl) (Nat.le_of_ble_eq_true rfl) dX11_falls_96
      · have w109995 := cv_nlt (rfl : p3.toInt = p3.toInt) (rfl : z109991.toInt = z109991.toInt) c109992
        refine lv_aload_n hx hb dX11_falls_51 rfl (lv_at hl 0 rfl) ?_
        refine t_get (C := RX11) (T := TX11) (N := 16) X hT m0 g0 rfl rfl 7 (by decide) qw_25 inlX11 rfl dX11_falls_52 (fun v109996 hv109996 ov109996 => ?_)
        obtain ⟨b109997, rfl, mb109997, gb109997⟩ := okV_r ov109996
        have gb109997 : tag b109997 = 19 := tg_of gb109997
        refine lv_iload_n hx hb dX11_falls_55 rfl (lv_at hl 1 rfl) ?_
        refine lv_iload_n hx hb dX11_falls_56 rfl (lv_at hl 2 rfl) ?_
        refine t_cVi (n := 2) (C := RX7) (T := TX7) (N := 7) (As := [.int p1, .int p2]) (rest := []) X hT (kt312_X7_stands l G tag L F hT.2.2.2 b109997 p1 p2 mb109997 gb109997) mb109997 gb109997 rfl rfl qw_852 qw_853 qw_854 qw_22 qw_855 ⟨rfl, by decide +kernel, by decide +kernel, by decide +kernel⟩ ⟨Nat.le_of_ble_eq_true rfl, Nat.le_of_ble_eq_true rfl⟩ hl rfl rfl (Nat.le_of_ble_eq_true rfl) dX11_falls_57 ⟨Nat.le_of_ble_eq_true rfl, Nat.le_of_ble_eq_true rfl⟩ (fun z109998 F9 H locs hT hz109998 => ?_)
        obtain ⟨fz109998, hz109998⟩ := hz109998
        rw [fz109998] at hT
        refine lv_if_ne (tgt := 70) hx hb dX11_falls_60 (by decide) (fun c109999 => ?_) (fun c109999 => ?_)
        · have w110000 := cv_ne (rfl : z109998.toInt = z109998.toInt) (by decide : (0 : Int32).toInt = 0) c109999
          refine lv_aload_n hx hb dX11_falls_70 rfl (lv_at hl 0 rfl) ?_
          refine t_get (C := RX11) (T := TX11) (N := 16) X hT m0 g0 rfl rfl 3 (by decide) qw_18 inlX11 rfl dX11_falls_71 (fun v110001 hv110001 ov110001 => ?_)
          obtain ⟨b110002, rfl, mb110002, gb110002⟩ := okV_r ov110001
          have gb110002 : tag b110002 = 18 := tg_of gb110002
          refine lv_aload_n hx hb dX11_falls_74 rfl (lv_at hl 0 rfl) ?_
          refine t_get (C := RX11) (T := TX11) (N := 16) X hT m0 g0 rfl rfl 7 (by decide) qw_25 inlX11 rfl dX11_falls_75 (fun v110003 hv110003 ov110003 => ?_)
          obtain rfl : v110003 = .ref b109997 := hv110003.symm.trans hv109996
          refine t_gets X hT X.2.2.2.1.2.1.2.2.2 qw_1096 dX11_falls_78 ?_
          refine t_cSv (n := 3) (As := [.ref b110002, .ref b109997, .ref (G.2 13)]) (rest := []) X hT (kt365_X10_pass l G tag L F hT.2.2.2 b110002 b109997 mb110002 gb110002 mb109997 gb109997) qw_1097 qw_1098 qw_32 qw_1099 ⟨by decide +kernel, by decide +kernel, by decide +kernel⟩ ⟨Nat.le_of_ble_eq_true rfl, Nat.le_of_ble_eq_true rfl⟩ hl rfl rfl (Nat.le_of_ble_eq_true rfl) dX11_falls_81 ⟨Nat.le_of_ble_eq_true rfl, Nat.le_of_ble_eq_true rfl⟩ (fun F H locs hT hz110004 => ?_)
          have yz110004 := hz110004
          have hv109996 := (yz110004.1 _ 7 (Or.inr (by decide)) (Or.inr (by decide))).trans hv109996
          have hv110001 := (yz110004.1 _ 3 (Or.inr (by decide)) (Or.inr (by decide))).trans hv110001
          have hfr : (∀ b j : Nat, (tag b ≠ 19 ∨ j ≠ 0) → (tag b ≠ 19 ∨ j ≠ 1) → (tag b ≠ 26 ∨ j ≠ 13) → fld F b j = fld Fo b j) ∧ EF tag F Fo := ⟨fun b j n19_0 n19_1 n26_13 => (yz110004.1 b j n19_0 n19_1).trans (hfr.1 b j n19_0 n19_1 n26_13), fun b j hb => (yz110004.2 b j hb).trans (hfr.2 b j hb)⟩
          obtain ⟨z110005, ez110005⟩ : ∃ y : Int32, y = z109991 + 1 := ⟨_, rfl⟩
          have hz110005 : z110005.toInt = z109991.toInt + 1 := ar_add ez110005 rfl (by decide : (1 : Int32).toInt = 1) (by omega) (by omega)
          refine lv_iinc (v := z110005) (lv' := [(4, .int z110005), (0, .ref p0), (1, .int p1), (2, .int p2), (3, .int p3)]) hx hb dX11_falls_84 hl (k := 4) rfl (by rw [ez110005]; rfl) (by decide) rfl (fun ls hl => ?_)
          refine lv_goto (tgt := 45) hx hb dX11_falls_87 (by decide) ?_
          exact ih45 z110005 _ _ _ _ (by omega) (by omega) (by omega) (by omega) (by omega) hT hfr  (lv_sub hl [1, 2, 3, 4, 0] rfl)
        · have w110006 := cv_eq (rfl : z109998.toInt = z109998.toInt) (by decide : (0 : Int32).toInt = 0) c109999
          refine lv_aload_n hx hb dX11_falls_63 rfl (lv_at hl 0 rfl) ?_
          refine lv_iload hx hb dX11_falls_64 (lv_at hl 4 rfl) ?_
          refine t_cVi (n := 1) (C := RX11) (T := TX11) (N := 16) (As := [.int z109991]) (rest := []) X hT (kt350_X11_answer l G tag L F hT.2.2.2 p0 z109991 m0 g0) m0 g0 rfl rfl qw_463 qw_464 qw_465 qw_2 qw_466 ⟨rfl, by decide +kernel, by decide +kernel, by decide +kernel⟩ ⟨Nat.le_of_ble_eq_true rfl, Nat.le_of_ble_eq_true rfl⟩ hl rfl rfl (Nat.le_of_ble_eq_true rfl) dX11_falls_66 ⟨Nat.le_of_ble_eq_true rfl, Nat.le_of_ble_eq_true rfl⟩ (fun z110007 F H locs hT hz110007 => ?_)
          obtain ⟨hz110007, yz110007⟩ := hz110007
          have hv109996 := (yz110007.1 _ 7 (Or.inr (by decide))).trans hv109996
          have hfr : (∀ b j : Nat, (tag b ≠ 19 ∨ j ≠ 0) → (tag b ≠ 19 ∨ j ≠ 1) → (tag b ≠ 26 ∨ j ≠ 13) → fld F b j = fld Fo b j) ∧ EF tag F Fo := ⟨fun b j n19_0 n19_1 n26_13 => (yz110007.1 b j n26_13).trans (hfr.1 b j n19_0 n19_1 n26_13), fun b j hb => (yz110007.2 b j hb).trans (hfr.2 b j hb)⟩
          exact t_iret hQ X hT (⟨rg_all _, hfr⟩) (Nat.le_of_ble_eq_true rfl) (Nat.le_of_ble_eq_true rfl) dX11_falls_69
  refine lv_aload_n hx hb dX11_falls_0 rfl (lv_at hl 0 rfl) ?_
  refine lv_iload_n hx hb dX11_falls_1 rfl (lv_at hl 1 rfl) ?_
  refine lv_iload_n hx hb dX11_falls_2 rfl (lv_at hl 2 rfl) ?_
  refine t_cVi (n := 2) (C := RX11) (T := TX11) (N := 16) (As := [.int p1, .int p2]) (rest := []) X hT (kt364_X11_isSkin l G tag L F hT.2.2.2 p0 p1 p2 m0 g0) m0 g0 rfl rfl qw_823 qw_824 qw_825 qw_2 qw_826 ⟨rfl, by decide +kernel, by decide +kernel, by decide +kernel⟩ ⟨Nat.le_of_ble_eq_true rfl, Nat.le_of_ble_eq_true rfl⟩ hl rfl rfl (Nat.le_of_ble_eq_true rfl) dX11_falls_3 ⟨Nat.le_of_ble_eq_true rfl, Nat.le_of_ble_eq_true rfl⟩ (fun z110008 F9 H locs hT hz110008 => ?_)
  obtain ⟨fz110008, hz110008⟩ := hz110008
  rw [fz110008] at hT
  obtain ⟨hz110008, iz110008⟩ := hz110008
  refine lv_if_ne (tgt := 15) hx hb dX11_falls_6 (by decide) (fun c110009 => ?_) (fun c110009 => ?_)
  · have w110010 := cv_ne (rfl : z110008.toInt = z110008.toInt) (by decide : (0 : Int32).toInt = 0) c110009
    have w110011 := (fun h => (iz110008 h).1) (by omega)
    have w110012 := (fun h => (iz110008 h).2) (by omega)
    refine lv_iload_n hx hb dX11_falls_15 rfl (lv_at hl 3 rfl) ?_
    refine lv_if_lt (tgt := 25) hx hb dX11_falls_16 (by decide) (fun c110013 => ?_) (fun c110013 => ?_)
    · have w110014 := cv_lt (rfl : p3.toInt = p3.toInt) (by decide : (0 : Int32).toInt = 0) c110013
      exact K25  _ _ _ _ (by omega) (by omega) hT hfr  (lv_sub hl [0, 1, 2, 3] rfl)
    · have w110015 := cv_nlt (rfl : p3.toInt = p3.toInt) (by decide : (0 : Int32).toInt = 0) c110013
      refine lv_iload_n hx hb dX11_falls_19 rfl (lv_at hl 3 rfl) ?_
      refine lv_bipush (v := 60) hx hb dX11_falls_20 (by decide) ?_
      refine lv_icmp_le (tgt := 31) hx hb dX11_falls_22 (by decide) (fun c110016 => ?_) (fun c110016 => ?_)
      · have w110017 := cv_le (rfl : p3.toInt = p3.toInt) (by decide : (60 : Int32).toInt = 60) c110016
        refine lv_aload_n hx hb dX11_falls_31 rfl (lv_at hl 0 rfl) ?_
        refine t_get (C := RX11) (T := TX11) (N := 16) X hT m0 g0 rfl rfl 7 (by decide) qw_25 inlX11 rfl dX11_falls_32 (fun v110018 hv110018 ov110018 => ?_)
        obtain ⟨b110019, rfl, mb110019, gb110019⟩ := okV_r ov110018
        have gb110019 : tag b110019 = 19 := tg_of gb110019
        refine lv_aload_n hx hb dX11_falls_35 rfl (lv_at hl 0 rfl) ?_
        refine t_get (C := RX11) (T := TX11) (N := 16) X hT m0 g0 rfl rfl 5 (by decide) qw_23 inlX11 rfl dX11_falls_36 (fun v110020 hv110020 ov110020 => ?_)
        obtain ⟨b110021, rfl, mb110021, gb110021⟩ := okV_r ov110020
        have gb110021 : tag b110021 = 19 := tg_of gb110021
        refine t_cVv (n := 1) (C := RX7) (T := TX7) (N := 7) (As := [.ref b110021]) (rest := []) X hT (kt343_X7_copyFrom l G tag L F hT.2.2.2 b110019 b110021 mb110019 gb110019 mb110021 gb110021) mb110019 gb110019 rfl rfl qw_449 qw_450 qw_451 qw_22 qw_452 ⟨rfl, by decide +kernel, by decide +kernel, by decide +kernel⟩ ⟨Nat.le_of_ble_eq_true rfl, Nat.le_of_ble_eq_true rfl⟩ hl rfl rfl (Nat.le_of_ble_eq_true rfl) dX11_falls_39 ⟨Nat.le_of_ble_eq_true rfl, Nat.le_of_ble_eq_true rfl⟩ (fun F H locs hT hz110022 => ?_)
        have yz110022 := hz110022
        have hv110018 := (yz110022.1 _ 7 (Or.inr (by decide)) (Or.inr (by decide))).trans hv110018
        have hv110020 := (yz110022.1 _ 5 (Or.inr (by decide)) (Or.inr (by decide))).trans hv110020
        have hfr : (∀ b j : Nat, (tag b ≠ 19 ∨ j ≠ 0) → (tag b ≠ 19 ∨ j ≠ 1) → (tag b ≠ 26 ∨ j ≠ 13) → fld F b j = fld Fo b j) ∧ EF tag F Fo := ⟨fun b j n19_0 n19_1 n26_13 => (yz110022.1 b j n19_0 n19_1).trans (hfr.1 b j n19_0 n19_1 n26_13), fun b j hb => (yz110022.2 b j hb).trans (hfr.2 b j hb)⟩
        refine lv_iconst (v := 0) hx hb dX11_falls_42 (by decide) ?_
        refine lv_istore (lv' := [(4, .int 0), (0, .ref p0), (1, .int p1), (2, .int p2), (3, .int p3)]) hx hb dX11_falls_43 hl (by decide) rfl (fun ls hl => ?_)
        have kk110023 : (0 : Int32).toInt = 0 := by decide
        exact K45 62 0 _ _ _ _ (by omega) (by decide) (by omega) (by omega) (by omega) hT hfr  (lv_sub hl [1, 2, 3, 4, 0] rfl)
      · have w110024 := cv_nle (rfl : p3.toInt = p3.toInt) (by decide : (60 : Int32).toInt = 60) c110016
        exact K25  _ _ _ _ (by omega) (by omega) hT hfr  (lv_sub hl [0, 1, 2, 3] rfl)
  · have w110025 := cv_eq (rfl : z110008.toInt = z110008.toInt) (by decide : (0 : Int32).toInt = 0) c110009
    refine lv_aload_n hx hb dX11_falls_9 rfl (lv_at hl 0 rfl) ?_
    refine lv_iconst (v := 1) hx hb dX11_falls_10 (by decide) ?_
    refine t_cVi (n := 1) (C := RX11) (T := TX11) (N := 16) (As := [.int 1]) (rest := []) X hT (kt357_X11_refuse l G tag L F hT.2.2.2 p0 1 m0 g0) m0 g0 rfl rfl qw_152 qw_153 qw_154 qw_2 qw_155 ⟨rfl, by decide +kernel, by decide +kernel, by decide +kernel⟩ ⟨Nat.le_of_ble_eq_true rfl, Nat.le_of_ble_eq_true rfl⟩ hl rfl rfl (Nat.le_of_ble_eq_true rfl) dX11_falls_11 ⟨Nat.le_of_ble_eq_true rfl, Nat.le_of_ble_eq_true rfl⟩ (fun z110026 F H locs hT hz110026 => ?_)
    obtain ⟨hz110026, yz110026⟩ := hz110026
    have hfr : (∀ b j : Nat, (tag b ≠ 19 ∨ j ≠ 0) → (tag b ≠ 19 ∨ j ≠ 1) → (tag b ≠ 26 ∨ j ≠ 13) → fld F b j = fld Fo b j) ∧ EF tag F Fo := ⟨fun b j n19_0 n19_1 n26_13 => (yz110026.1 b j n26_13).trans (hfr.1 b j n19_0 n19_1 n26_13), fun b j hb => (yz110026.2 b j hb).trans (hfr.2 b j hb)⟩
    exact t_iret hQ X hT (⟨rg_all _, hfr⟩) (Nat.le_of_ble_eq_true rfl) (Nat.le_of_ble_eq_true rfl) dX11_falls_14
set_option maxHeartbeats 4000000 in
set_option maxRecDepth 100000 in
theorem kt367_X11_fault (l : Launch) (G : KG) (tag : Nat → Nat) (L : List Nat) (F : Nat → va_E) (ho : okT G ttC tag L F) (p0 : Nat) (m0 : p0 ∈ L) (g0 : tag p0 = 26) : TMi l yX11_fault cX11_fault 1 (some .int) { frames := 0, cells := 0, slots := 0, locals := 0 } G ttC tag L F [.ref p0] (fun r F1 => F1 = F ∧ ((-2147483648) ≤ r.toInt ∧ r.toInt ≤ 2147483647)) := by
  refine t_bodyi (y := yX11_fault) (cd := cX11_fault) (mL := 1) (rt := (some .int)) (rm := { frames := 0, cells := 0, slots := 0, locals := 0 }) (av := [.ref p0]) (by decide) (Nat.le_of_ble_eq_true rfl) ho ?_
  intro p e s m args below meth c ls A Q hQ X hT hl
  have hx := X.1.1
  have hb := X.1.2.1
  have hl : lv_has ls 1 [(0, .ref p0)] := hl
  refine lv_aload_n hx hb dX11_fault_0 rfl (lv_at hl 0 rfl) ?_
  refine t_get (C := RX11) (T := TX11) (N := 16) X hT m0 g0 rfl rfl 14 (by decide) qw_147 inlX11 rfl dX11_fault_1 (fun v110049 hv110049 ov110049 => ?_)
  obtain ⟨z110050, rfl, rz110050⟩ := okV_i ov110049
  exact t_iret hQ X hT (⟨rfl, rg_all _⟩) (Nat.le_of_ble_eq_true rfl) (Nat.le_of_ble_eq_true rfl) dX11_fault_4
set_option maxHeartbeats 4000000 in
set_option maxRecDepth 100000 in
theorem kt368_X11_isLivedIn (l : Launch) (G : KG) (tag : Nat → Nat) (L : List Nat) (F : Nat → va_E) (ho : okT G ttC tag L F) (p0 : Nat) (p1 : Int32) (p2 : Int32) (m0 : p0 ∈ L) (g0 : tag p0 = 26) : TMi l yX11_isLivedIn cX11_isLivedIn 4 (some .boolean) { frames := 0, cells := 0, slots := 0, locals := 0 } G ttC tag L F [.ref p0, .int p1, .int p2] (fun r F1 => F1 = F ∧ (0 ≤ r.toInt ∧ r.toInt ≤ 1)) := by
  refine t_bodyi (y := yX11_isLivedIn) (cd := cX11_isLivedIn) (mL := 4) (rt := (some .boolean)) (rm := { frames := 0, cells := 0, slots := 0, locals := 0 }) (av := [.ref p0, .int p1, .int p2]) (by decide) (Nat.le_of_ble_eq_true rfl) ho ?_
  intro p e s m args below meth c ls A Q hQ X hT hl
  have hx := X.1.1
  have hb := X.1.2.1
  have hl : lv_has ls 4 [(0, .ref p0), (1, .int p1), (2, .int p2)] := hl
  have rp1 := rg_all p1
  have rp2 := rg_all p2
  have K2 : ∀ (n : Nat) (z110510 : Int32) (H : Heap) (locs : List Loc) (ls : Array Slot), (6 - z110510.toInt < (n : Int)) → (0 ≤ z110510.toInt ∧ z110510.toInt ≤ 6) → TH G ttC A s tag L F H locs → lv_has ls 4 [(0, .ref p0), (1, .int p1), (2, .int p2), (3, .int z110510)] → W p l e { frames := 0, cells := 0, slots := 0, locals := 0 } s m args below meth c H locs 0 0 Q (F0 m 2 ls []) := by
    intro n
    induction n with
    | zero =>
      intro z110510 H locs ls hn rz110510 hT hl
      exfalso
      omega
    | succ n ih2 =>
      intro z110510 H locs ls hn rz110510 hT hl
      have K41 : ∀  (H : Heap) (locs : List Loc) (ls : Array Slot), (0 ≤ z110510.toInt ∧ z110510.toInt ≤ 5) → TH G ttC A s tag L F H locs → lv_has ls 4 [(0, .ref p0), (1, .int p1), (2, .int p2), (3, .int z110510)] → W p l e { frames := 0, cells := 0, slots := 0, locals := 0 } s m args below meth c H locs 0 0 Q (F0 m 41 ls []) := by
        intro H locs ls r9s110511 hT hl
        obtain ⟨z110512, ez110512⟩ : ∃ y : Int32, y = z110510 + 1 := ⟨_, rfl⟩
        have hz110512 : z110512.toInt = z110510.toInt + 1 := ar_add ez110512 rfl (by decide : (1 : Int32).toInt = 1) (by omega) (by omega)
        refine lv_iinc (v := z110512) (lv' := [(3, .int z110512), (0, .ref p0), (1, .int p1), (2, .int p2)]) hx hb dX11_isLivedIn_41 hl (k := 3) rfl (by rw [ez110512]; rfl) (by decide) rfl (fun ls hl => ?_)
        refine lv_goto (tgt := 2) hx hb dX11_isLivedIn_44 (by decide) ?_
        exact ih2 z110512 _ _ _ (by omega) (by omega) hT  (lv_sub hl [1, 2, 3, 0] rfl)
      refine lv_iload_n hx hb dX11_isLivedIn_2 rfl (lv_at hl 3 rfl) ?_
      refine lv_aload_n hx hb dX11_isLivedIn_3 rfl (lv_at hl 0 rfl) ?_
      refine t_get (C := RX11) (T := TX11) (N := 16) X hT m0 g0 rfl rfl 3 (by decide) qw_18 inlX11 rfl dX11_isLivedIn_4 (fun v110513 hv110513 ov110513 => ?_)
      obtain ⟨b110514, rfl, mb110514, gb110514⟩ := okV_r ov110513
      have gb110514 : tag b110514 = 18 := tg_of gb110514
      refine t_get (C := RX1) (T := TX1) (N := 20) X hT mb110514 gb110514 rfl rfl 14 (by decide) qw_891 inlX1 rfl dX11_isLivedIn_7 (fun v110515 hv110515 ov110515 => ?_)
      obtain ⟨z110516, rfl, rz110516⟩ := okV_i ov110515
      refine lv_icmp_ge (tgt := 47) hx hb dX11_isLivedIn_10 (by decide) (fun c110517 => ?_) (fun c110517 => ?_)
      · have w110518 := cv_le (rfl : z110516.toInt = z110516.toInt) (rfl : z110510.toInt = z110510.toInt) c110517
        refine lv_iconst (v := 0) hx hb dX11_isLivedIn_47 (by decide) ?_
        exact t_zret hQ X hT (by decide) (⟨rfl, (by decide)⟩) (Nat.le_of_ble_eq_true rfl) (Nat.le_of_ble_eq_true rfl) dX11_isLivedIn_48
      · have w110519 := cv_nle (rfl : z110516.toInt = z110516.toInt) (rfl : z110510.toInt = z110510.toInt) c110517
        refine lv_aload_n hx hb dX11_isLivedIn_13 rfl (lv_at hl 0 rfl) ?_
        refine t_get (C := RX11) (T := TX11) (N := 16) X hT m0 g0 rfl rfl 3 (by decide) qw_18 inlX11 rfl dX11_isLivedIn_14 (fun v110520 hv110520 ov110520 => ?_)
        obtain rfl : v110520 = .ref b110514 := hv110520.symm.trans hv110513
        refine t_get (C := RX1) (T := TX1) (N := 20) X hT mb110514 gb110514 rfl rfl 15 (by decide) qw_885 inlX1 rfl dX11_isLivedIn_17 (fun v110521 hv110521 ov110521 => ?_)
        obtain ⟨b110522, rfl, mb110522, gb110522⟩ := okV_r ov110521
        have gb110522 : tag b110522 = 6 := tg_of gb110522
        refine lv_iload_n hx hb dX11_isLivedIn_20 rfl (lv_at hl 3 rfl) ?_
        refine t_ild X hT mb110522 gb110522 rfl (by omega) dX11_isLivedIn_21 (fun z110523 vz110523 rz110523 => ?_)
        have rz110523 : 0 ≤ z110523.toInt ∧ z110523.toInt ≤ 3 := rz110523
        refine lv_iload_n hx hb dX11_isLivedIn_22 rfl (lv_at hl 1 rfl) ?_
        refine lv_icmp_ne (tgt := 41) hx hb dX11_isLivedIn_23 (by decide) (fun c110524 => ?_) (fun c110524 => ?_)
        · have w110525 := cv_ne (rfl : z110523.toInt = z110523.toInt) (rfl : p1.toInt = p1.toInt) c110524
          exact K41  _ _ _ (by omega) hT  (lv_sub hl [0, 1, 2, 3] rfl)
        · have w110526 := cv_eq (rfl : z110523.toInt = z110523.toInt) (rfl : p1.toInt = p1.toInt) c110524
          refine lv_aload_n hx hb dX11_isLivedIn_26 rfl (lv_at hl 0 rfl) ?_
          refine t_get (C := RX11) (T := TX11) (N := 16) X hT m0 g0 rfl rfl 5 (by decide) qw_23 inlX11 rfl dX11_isLivedIn_27 (fun v110527 hv110527 ov110527 => ?_)
          obtain ⟨b110528, rfl, mb110528, gb110528⟩ := okV_r ov110527
          have gb110528 : tag b110528 = 19 := tg_of gb110528
          refine t_get (C := RX7) (T := TX7) (N := 7) X hT mb110528 gb110528 rfl rfl 5 (by decide) qw_886 inlX7 rfl dX11_isLivedIn_30 (fun v110529 hv110529 ov110529 => ?_)
          obtain ⟨b110530, rfl, mb110530, gb110530⟩ := okV_r ov110529
          have gb110530 : tag b110530 = 7 := tg_of gb110530
          refine lv_iload_n hx hb dX11_isLivedIn_33 rfl (lv_at hl 3 rfl) ?_
          refine t_ild X hT mb110530 gb110530 rfl (by omega) dX11_isLivedIn_34 (fun z110531 vz110531 rz110531 => ?_)
          have rz110531 : (-2147483648) ≤ z110531.toInt ∧ z110531.toInt ≤ 2147483647 := rz110531
          refine lv_iload_n hx hb dX11_isLivedIn_35 rfl (lv_at hl 2 rfl) ?_
          refine lv_icmp_ne (tgt := 41) hx hb dX11_isLivedIn_36 (by decide) (fun c110532 => ?_) (fun c110532 => ?_)
          · have w110533 := cv_ne (rfl : z110531.toInt = z110531.toInt) (rfl : p2.toInt = p2.toInt) c110532
            exact K41  _ _ _ (by omega) hT  (lv_sub hl [0, 1, 2, 3] rfl)
          · have w110534 := cv_eq (rfl : z110531.toInt = z110531.toInt) (rfl : p2.toInt = p2.toInt) c110532
            refine lv_iconst (v := 1) hx hb dX11_isLivedIn_39 (by decide) ?_
            exact t_zret hQ X hT (by decide) (⟨rfl, (by decide)⟩) (Nat.le_of_ble_eq_true rfl) (Nat.le_of_ble_eq_true rfl) dX11_isLivedIn_40
  refine lv_iconst (v := 0) hx hb dX11_isLivedIn_0 (by decide) ?_
  refine lv_istore_n (lv' := [(3, .int 0), (0, .ref p0), (1, .int p1), (2, .int p2)]) hx hb dX11_isLivedIn_1 rfl hl (by decide) rfl (fun ls hl => ?_)
  have kk110535 : (0 : Int32).toInt = 0 := by decide
  exact K2 7 0 _ _ _ (by omega) (by decide) hT  (lv_sub hl [1, 2, 3, 0] rfl)
set_option maxHeartbeats 4000000 in
set_option maxRecDepth 100000 in
theorem kt369_X11_fill (l : Launch) (G : KG) (tag : Nat → Nat) (L : List Nat) (Fo : Nat → va_E) (ho : okT G ttC tag L Fo) (p0 : Nat) (p1 : Int32) (p2 : Int32) (m0 : p0 ∈ L) (g0 : tag p0 = 26) : TMi l yX11_fill cX11_fill 3 (some .boolean) { frames := 3, cells := 0, slots := 0, locals := 68 } G ttC tag L Fo [.ref p0, .int p1, .int p2] (fun r F1 => (0 ≤ r.toInt ∧ r.toInt ≤ 1) ∧ ((∀ b j : Nat, (tag b ≠ 19 ∨ j ≠ 0) → (tag b ≠ 19 ∨ j ≠ 1) → (tag b ≠ 23 ∨ j ≠ 2) → (tag b ≠ 23 ∨ j ≠ 3) → (tag b ≠ 26 ∨ j ≠ 13) → fld F1 b j = fld Fo b j) ∧ EF tag F1 Fo)) := by
  refine t_bodyi (y := yX11_fill) (cd := cX11_fill) (mL := 3) (rt := (some .boolean)) (rm := { frames := 3, cells := 0, slots := 0, locals := 68 }) (av := [.ref p0, .int p1, .int p2]) (by decide) (Nat.le_of_ble_eq_true rfl) ho ?_
  intro p e s m args below meth c ls A Q hQ X hT hl
  have hx := X.1.1
  have hb := X.1.2.1
  have hl : lv_has ls 3 [(0, .ref p0), (1, .int p1), (2, .int p2)] := hl
  have rp1 := rg_all p1
  have rp2 := rg_all p2
  obtain ⟨F, hFo⟩ : ∃ F : Nat → va_E, F = Fo := ⟨_, rfl⟩
  rw [← hFo] at hT
  have hfr : (∀ b j : Nat, (tag b ≠ 19 ∨ j ≠ 0) → (tag b ≠ 19 ∨ j ≠ 1) → (tag b ≠ 23 ∨ j ≠ 2) → (tag b ≠ 23 ∨ j ≠ 3) → (tag b ≠ 26 ∨ j ≠ 13) → fld F b j = fld Fo b j) ∧ EF tag F Fo := by
    rw [hFo]
    exact ⟨by intros; rfl, fun _ _ _ => rfl⟩
  have K36 : ∀  (F : Nat → va_E) (H : Heap) (locs : List Loc) (ls : Array Slot), (0 ≤ p1.toInt ∧ p1.toInt ≤ 3) → (1 ≤ p2.toInt ∧ p2.toInt ≤ 6) → TH G ttC A s tag L F H locs → ((∀ b j : Nat, (tag b ≠ 19 ∨ j ≠ 0) → (tag b ≠ 19 ∨ j ≠ 1) → (tag b ≠ 23 ∨ j ≠ 2) → (tag b ≠ 23 ∨ j ≠ 3) → (tag b ≠ 26 ∨ j ≠ 13) → fld F b j = fld Fo b j) ∧ EF tag F Fo) → lv_has ls 3 [(0, .ref p0), (1, .int p1), (2, .int p2)] → W p l e { frames := 3, cells := 0, slots := 0, locals := 68 } s m args below meth c H locs 0 0 Q (F0 m 36 ls []) := by
    intro F H locs ls r9s110811 r9s110812 hT hfr hl
    refine lv_aload_n hx hb dX11_fill_36 rfl (lv_at hl 0 rfl) ?_
    refine lv_iconst (v := 5) hx hb dX11_fill_37 (by decide) ?_
    refine t_cVi (n := 1) (C := RX11) (T := TX11) (N := 16) (As := [.int 5]) (rest := []) X hT (kt352_X11_no l G tag L F hT.2.2.2 p0 5 m0 g0) m0 g0 rfl rfl qw_1454 qw_1455 qw_1456 qw_2 qw_1457 ⟨rfl, by decide +kernel, by decide +kernel, by decide +kernel⟩ ⟨Nat.le_of_ble_eq_true rfl, Nat.le_of_ble_eq_true rfl⟩ hl rfl rfl (Nat.le_of_ble_eq_true rfl) dX11_fill_38 ⟨Nat.le_of_ble_eq_true rfl, Nat.le_of_ble_eq_true rfl⟩ (fun z110813 F H locs hT hz110813 => ?_)
    obtain ⟨hz110813, yz110813⟩ := hz110813
    have hfr : (∀ b j : Nat, (tag b ≠ 19 ∨ j ≠ 0) → (tag b ≠ 19 ∨ j ≠ 1) → (tag b ≠ 23 ∨ j ≠ 2) → (tag b ≠ 23 ∨ j ≠ 3) → (tag b ≠ 26 ∨ j ≠ 13) → fld F b j = fld Fo b j) ∧ EF tag F Fo := ⟨fun b j n19_0 n19_1 n23_2 n23_3 n26_13 => (yz110813.1 b j n26_13).trans (hfr.1 b j n19_0 n19_1 n23_2 n23_3 n26_13), fun b j hb => (yz110813.2 b j hb).trans (hfr.2 b j hb)⟩
    exact t_zret hQ X hT (nar_z (by omega)) (⟨(by omega), hfr⟩) (Nat.le_of_ble_eq_true rfl) (Nat.le_of_ble_eq_true rfl) dX11_fill_41
  refine lv_aload_n hx hb dX11_fill_0 rfl (lv_at hl 0 rfl) ?_
  refine lv_iload_n hx hb dX11_fill_1 rfl (lv_at hl 1 rfl) ?_
  refine lv_iload_n hx hb dX11_fill_2 rfl (lv_at hl 2 rfl) ?_
  refine t_cVi (n := 2) (C := RX11) (T := TX11) (N := 16) (As := [.int p1, .int p2]) (rest := []) X hT (kt364_X11_isSkin l G tag L F hT.2.2.2 p0 p1 p2 m0 g0) m0 g0 rfl rfl qw_823 qw_824 qw_825 qw_2 qw_826 ⟨rfl, by decide +kernel, by decide +kernel, by decide +kernel⟩ ⟨Nat.le_of_ble_eq_true rfl, Nat.le_of_ble_eq_true rfl⟩ hl rfl rfl (Nat.le_of_ble_eq_true rfl) dX11_fill_3 ⟨Nat.le_of_ble_eq_true rfl, Nat.le_of_ble_eq_true rfl⟩ (fun z110814 F9 H locs hT hz110814 => ?_)
  obtain ⟨fz110814, hz110814⟩ := hz110814
  rw [fz110814] at hT
  obtain ⟨hz110814, iz110814⟩ := hz110814
  refine lv_if_ne (tgt := 15) hx hb dX11_fill_6 (by decide) (fun c110815 => ?_) (fun c110815 => ?_)
  · have w110816 := cv_ne (rfl : z110814.toInt = z110814.toInt) (by decide : (0 : Int32).toInt = 0) c110815
    have w110817 := (fun h => (iz110814 h).1) (by omega)
    have w110818 := (fun h => (iz110814 h).2) (by omega)
    refine lv_aload_n hx hb dX11_fill_15 rfl (lv_at hl 0 rfl) ?_
    refine t_get (C := RX11) (T := TX11) (N := 16) X hT m0 g0 rfl rfl 5 (by decide) qw_23 inlX11 rfl dX11_fill_16 (fun v110819 hv110819 ov110819 => ?_)
    obtain ⟨b110820, rfl, mb110820, gb110820⟩ := okV_r ov110819
    have gb110820 : tag b110820 = 19 := tg_of gb110820
    refine lv_iload_n hx hb dX11_fill_19 rfl (lv_at hl 1 rfl) ?_
    refine lv_iload_n hx hb dX11_fill_20 rfl (lv_at hl 2 rfl) ?_
    refine t_cVi (n := 2) (C := RX7) (T := TX7) (N := 7) (As := [.int p1, .int p2]) (rest := []) X hT (kt313_X7_isOpen l G tag L F hT.2.2.2 b110820 p1 p2 mb110820 gb110820) mb110820 gb110820 rfl rfl qw_1458 qw_984 qw_985 qw_22 qw_986 ⟨rfl, by decide +kernel, by decide +kernel, by decide +kernel⟩ ⟨Nat.le_of_ble_eq_true rfl, Nat.le_of_ble_eq_true rfl⟩ hl rfl rfl (Nat.le_of_ble_eq_true rfl) dX11_fill_21 ⟨Nat.le_of_ble_eq_true rfl, Nat.le_of_ble_eq_true rfl⟩ (fun z110821 F9 H locs hT hz110821 => ?_)
    obtain ⟨fz110821, hz110821⟩ := hz110821
    rw [fz110821] at hT
    refine lv_if_eq (tgt := 36) hx hb dX11_fill_24 (by decide) (fun c110822 => ?_) (fun c110822 => ?_)
    · have w110823 := cv_eq (rfl : z110821.toInt = z110821.toInt) (by decide : (0 : Int32).toInt = 0) c110822
      exact K36  _ _ _ _ (by omega) (by omega) hT hfr  (lv_sub hl [0, 1, 2] rfl)
    · have w110824 := cv_ne (rfl : z110821.toInt = z110821.toInt) (by decide : (0 : Int32).toInt = 0) c110822
      refine lv_aload_n hx hb dX11_fill_27 rfl (lv_at hl 0 rfl) ?_
      refine lv_iload_n hx hb dX11_fill_28 rfl (lv_at hl 1 rfl) ?_
      refine lv_iload_n hx hb dX11_fill_29 rfl (lv_at hl 2 rfl) ?_
      refine t_cVi (n := 2) (C := RX11) (T := TX11) (N := 16) (As := [.int p1, .int p2]) (rest := []) X hT (kt368_X11_isLivedIn l G tag L F hT.2.2.2 p0 p1 p2 m0 g0) m0 g0 rfl rfl qw_1316 qw_1317 qw_1318 qw_2 qw_1319 ⟨rfl, by decide +kernel, by decide +kernel, by decide +kernel⟩ ⟨Nat.le_of_ble_eq_true rfl, Nat.le_of_ble_eq_true rfl⟩ hl rfl rfl (Nat.le_of_ble_eq_true rfl) dX11_fill_30 ⟨Nat.le_of_ble_eq_true rfl, Nat.le_of_ble_eq_true rfl⟩ (fun z110825 F9 H locs hT hz110825 => ?_)
      obtain ⟨fz110825, hz110825⟩ := hz110825
      rw [fz110825] at hT
      refine lv_if_eq (tgt := 42) hx hb dX11_fill_33 (by decide) (fun c110826 => ?_) (fun c110826 => ?_)
      · have w110827 := cv_eq (rfl : z110825.toInt = z110825.toInt) (by decide : (0 : Int32).toInt = 0) c110826
        refine lv_aload_n hx hb dX11_fill_42 rfl (lv_at hl 0 rfl) ?_
        refine t_get (C := RX11) (T := TX11) (N := 16) X hT m0 g0 rfl rfl 12 (by decide) qw_45 inlX11 rfl dX11_fill_43 (fun v110828 hv110828 ov110828 => ?_)
        obtain ⟨b110829, rfl, mb110829, gb110829⟩ := okV_r ov110828
        have gb110829 : tag b110829 = 23 := tg_of gb110829
        refine lv_aload_n hx hb dX11_fill_46 rfl (lv_at hl 0 rfl) ?_
        refine t_get (C := RX11) (T := TX11) (N := 16) X hT m0 g0 rfl rfl 5 (by decide) qw_23 inlX11 rfl dX11_fill_47 (fun v110830 hv110830 ov110830 => ?_)
        obtain rfl : v110830 = .ref b110820 := hv110830.symm.trans hv110819
        refine t_cVv (n := 1) (C := RX2) (T := TX2) (N := 5) (As := [.ref b110820]) (rest := []) X hT (kt360_X2_keep l G tag L F hT.2.2.2 b110829 b110820 mb110829 gb110829 mb110820 gb110820) mb110829 gb110829 rfl rfl qw_1427 qw_1428 qw_1429 qw_44 qw_1430 ⟨rfl, by decide +kernel, by decide +kernel, by decide +kernel⟩ ⟨Nat.le_of_ble_eq_true rfl, Nat.le_of_ble_eq_true rfl⟩ hl rfl rfl (Nat.le_of_ble_eq_true rfl) dX11_fill_50 ⟨Nat.le_of_ble_eq_true rfl, Nat.le_of_ble_eq_true rfl⟩ (fun F H locs hT hz110831 => ?_)
        have yz110831 := hz110831
        have hv110819 := (yz110831.1 _ 5 (Or.inr (by decide)) (Or.inr (by decide)) (Or.inr (by decide)) (Or.inr (by decide))).trans hv110819
        have hv110828 := (yz110831.1 _ 12 (Or.inr (by decide)) (Or.inr (by decide)) (Or.inr (by decide)) (Or.inr (by decide))).trans hv110828
        have hfr : (∀ b j : Nat, (tag b ≠ 19 ∨ j ≠ 0) → (tag b ≠ 19 ∨ j ≠ 1) → (tag b ≠ 23 ∨ j ≠ 2) → (tag b ≠ 23 ∨ j ≠ 3) → (tag b ≠ 26 ∨ j ≠ 13) → fld F b j = fld Fo b j) ∧ EF tag F Fo := ⟨fun b j n19_0 n19_1 n23_2 n23_3 n26_13 => (yz110831.1 b j n19_0 n19_1 n23_2 n23_3).trans (hfr.1 b j n19_0 n19_1 n23_2 n23_3 n26_13), fun b j hb => (yz110831.2 b j hb).trans (hfr.2 b j hb)⟩
        refine lv_aload_n hx hb dX11_fill_53 rfl (lv_at hl 0 rfl) ?_
        refine t_get (C := RX11) (T := TX11) (N := 16) X hT m0 g0 rfl rfl 5 (by decide) qw_23 inlX11 rfl dX11_fill_54 (fun v110832 hv110832 ov110832 => ?_)
        obtain rfl : v110832 = .ref b110820 := hv110832.symm.trans hv110819
        refine lv_iload_n hx hb dX11_fill_57 rfl (lv_at hl 1 rfl) ?_
        refine lv_iload_n hx hb dX11_fill_58 rfl (lv_at hl 2 rfl) ?_
        refine lv_bipush (v := 6) hx hb dX11_fill_59 (by decide) ?_
        refine lv_iconst (v := 1) hx hb dX11_fill_61 (by decide) ?_
        refine t_cVv (n := 4) (C := RX7) (T := TX7) (N := 7) (As := [.int p1, .int p2, .int 6, .int 1]) (rest := []) X hT (kt310_X7_setPart l G tag L F hT.2.2.2 b110820 p1 p2 6 1 mb110820 gb110820) mb110820 gb110820 rfl rfl qw_1459 qw_423 qw_424 qw_22 qw_425 ⟨rfl, by decide +kernel, by decide +kernel, by decide +kernel⟩ ⟨Nat.le_of_ble_eq_true rfl, Nat.le_of_ble_eq_true rfl⟩ hl rfl rfl (Nat.le_of_ble_eq_true rfl) dX11_fill_62 ⟨Nat.le_of_ble_eq_true rfl, Nat.le_of_ble_eq_true rfl⟩ (fun F H locs hT hz110833 => ?_)
        have yz110833 := hz110833
        have hv110819 := (yz110833.1 _ 5 ).trans hv110819
        have hv110828 := (yz110833.1 _ 12 ).trans hv110828
        have hfr : (∀ b j : Nat, (tag b ≠ 19 ∨ j ≠ 0) → (tag b ≠ 19 ∨ j ≠ 1) → (tag b ≠ 23 ∨ j ≠ 2) → (tag b ≠ 23 ∨ j ≠ 3) → (tag b ≠ 26 ∨ j ≠ 13) → fld F b j = fld Fo b j) ∧ EF tag F Fo := ⟨fun b j n19_0 n19_1 n23_2 n23_3 n26_13 => (yz110833.1 b j ).trans (hfr.1 b j n19_0 n19_1 n23_2 n23_3 n26_13), fun b j hb => (yz110833.2 b j hb).trans (hfr.2 b j hb)⟩
        refine lv_aload_n hx hb dX11_fill_65 rfl (lv_at hl 0 rfl) ?_
        refine t_cVi (n := 0) (C := RX11) (T := TX11) (N := 16) (As := []) (rest := []) X hT (kt353_X11_yes l G tag L F hT.2.2.2 p0 m0 g0) m0 g0 rfl rfl qw_1460 qw_1461 qw_1462 qw_2 qw_1463 ⟨rfl, by decide +kernel, by decide +kernel, by decide +kernel⟩ ⟨Nat.le_of_ble_eq_true rfl, Nat.le_of_ble_eq_true rfl⟩ hl rfl rfl (Nat.le_of_ble_eq_true rfl) dX11_fill_66 ⟨Nat.le_of_ble_eq_true rfl, Nat.le_of_ble_eq_true rfl⟩ (fun z110834 F H locs hT hz110834 => ?_)
        obtain ⟨hz110834, yz110834⟩ := hz110834
        have hv110819 := (yz110834.1 _ 5 (Or.inr (by decide))).trans hv110819
        have hv110828 := (yz110834.1 _ 12 (Or.inr (by decide))).trans hv110828
        have hfr : (∀ b j : Nat, (tag b ≠ 19 ∨ j ≠ 0) → (tag b ≠ 19 ∨ j ≠ 1) → (tag b ≠ 23 ∨ j ≠ 2) → (tag b ≠ 23 ∨ j ≠ 3) → (tag b ≠ 26 ∨ j ≠ 13) → fld F b j = fld Fo b j) ∧ EF tag F Fo := ⟨fun b j n19_0 n19_1 n23_2 n23_3 n26_13 => (yz110834.1 b j n26_13).trans (hfr.1 b j n19_0 n19_1 n23_2 n23_3 n26_13), fun b j hb => (yz110834.2 b j hb).trans (hfr.2 b j hb)⟩
        exact t_zret hQ X hT (nar_z (by omega)) (⟨(by omega), hfr⟩) (Nat.le_of_ble_eq_true rfl) (Nat.le_of_ble_eq_true rfl) dX11_fill_69
      · have w110835 := cv_ne (rfl : z110825.toInt = z110825.toInt) (by decide : (0 : Int32).toInt = 0) c110826
        exact K36  _ _ _ _ (by omega) (by omega) hT hfr  (lv_sub hl [0, 1, 2] rfl)
  · have w110836 := cv_eq (rfl : z110814.toInt = z110814.toInt) (by decide : (0 : Int32).toInt = 0) c110815
    refine lv_aload_n hx hb dX11_fill_9 rfl (lv_at hl 0 rfl) ?_
    refine lv_iconst (v := 1) hx hb dX11_fill_10 (by decide) ?_
    refine t_cVi (n := 1) (C := RX11) (T := TX11) (N := 16) (As := [.int 1]) (rest := []) X hT (kt352_X11_no l G tag L F hT.2.2.2 p0 1 m0 g0) m0 g0 rfl rfl qw_1454 qw_1455 qw_1456 qw_2 qw_1457 ⟨rfl, by decide +kernel, by decide +kernel, by decide +kernel⟩ ⟨Nat.le_of_ble_eq_true rfl, Nat.le_of_ble_eq_true rfl⟩ hl rfl rfl (Nat.le_of_ble_eq_true rfl) dX11_fill_11 ⟨Nat.le_of_ble_eq_true rfl, Nat.le_of_ble_eq_true rfl⟩ (fun z110837 F H locs hT hz110837 => ?_)
    obtain ⟨hz110837, yz110837⟩ := hz110837
    have hfr : (∀ b j : Nat, (tag b ≠ 19 ∨ j ≠ 0) → (tag b ≠ 19 ∨ j ≠ 1) → (tag b ≠ 23 ∨ j ≠ 2) → (tag b ≠ 23 ∨ j ≠ 3) → (tag b ≠ 26 ∨ j ≠ 13) → fld F b j = fld Fo b j) ∧ EF tag F Fo := ⟨fun b j n19_0 n19_1 n23_2 n23_3 n26_13 => (yz110837.1 b j n26_13).trans (hfr.1 b j n19_0 n19_1 n23_2 n23_3 n26_13), fun b j hb => (yz110837.2 b j hb).trans (hfr.2 b j hb)⟩
    exact t_zret hQ X hT (nar_z (by omega)) (⟨(by omega), hfr⟩) (Nat.le_of_ble_eq_true rfl) (Nat.le_of_ble_eq_true rfl) dX11_fill_14
