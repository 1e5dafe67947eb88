set_option maxHeartbeats 4000000 in
set_option maxRecDepth 100000 in
theorem kt427_X11_worth (l : Launch) (G : KG) (tag : Nat → Nat) (L : List Nat) (Fo : Nat → va_E) (ho : okT G ttC tag L Fo) (p0 : Nat) (p1 : Int32) (m0 : p0 ∈ L) (g0 : tag p0 = 26) : TMi l yX11_worth cX11_worth 4 (some .int) { frames := 2, cells := 0, slots := 0, locals := 46 } G ttC tag L Fo [.ref p0, .int p1] (fun r F1 => ((-2147483648) ≤ r.toInt ∧ r.toInt ≤ 2147483647) ∧ ((∀ b j : Nat, (tag b ≠ 26 ∨ j ≠ 13) → fld F1 b j = fld Fo b j) ∧ EF tag F1 Fo)) := by
  refine t_bodyi (y := yX11_worth) (cd := cX11_worth) (mL := 4) (rt := (some .int)) (rm := { frames := 2, cells := 0, slots := 0, locals := 46 }) (av := [.ref p0, .int p1]) (by decide) (Nat.le_of_ble_eq_true rfl) ho ?_
  intro p e s m args below meth c ls A Q hQ X hT hl
  have hx := X.1.1
  have hb := X.1.2.1
  have hl : lv_has ls 4 [(0, .ref p0), (1, .int p1)] := hl
  have rp1 := rg_all p1
  obtain ⟨F, hFo⟩ : ∃ F : Nat → va_E, F = Fo := ⟨_, rfl⟩
  rw [← hFo] at hT
  have hfr : (∀ b j : Nat, (tag b ≠ 26 ∨ j ≠ 13) → fld F b j = fld Fo b j) ∧ EF tag F Fo := by
    rw [hFo]
    exact ⟨by intros; rfl, fun _ _ _ => rfl⟩
  have K18 : ∀ (n : Nat) (z135459 : Int32) (z135460 : Int32) (F : Nat → va_E) (H : Heap) (locs : List Loc) (ls : Array Slot), (6 - z135460.toInt < (n : Int)) → (1 ≤ z135460.toInt ∧ z135460.toInt ≤ 6) → (0 ≤ p1.toInt ∧ p1.toInt ≤ 3) → TH G ttC A s tag L F H locs → ((∀ b j : Nat, (tag b ≠ 26 ∨ j ≠ 13) → fld F b j = fld Fo b j) ∧ EF tag F Fo) → lv_has ls 4 [(0, .ref p0), (1, .int p1), (2, .int z135459), (3, .int z135460)] → W p l e { frames := 2, cells := 0, slots := 0, locals := 46 } s m args below meth c H locs 0 0 Q (F0 m 18 ls []) := by
    intro n
    induction n with
    | zero =>
      intro z135459 z135460 F H locs ls hn rz135460 r9s135458 hT hfr hl
      have rz135459 := rg_all z135459
      exfalso
      omega
    | succ n ih18 =>
      intro z135459 z135460 F H locs ls hn rz135460 r9s135458 hT hfr hl
      have rz135459 := rg_all z135459
      have K67 : ∀ (z135461 : Int32) (F : Nat → va_E) (H : Heap) (locs : List Loc) (ls : Array Slot), (1 ≤ z135460.toInt ∧ z135460.toInt ≤ 5) → TH G ttC A s tag L F H locs → ((∀ b j : Nat, (tag b ≠ 26 ∨ j ≠ 13) → fld F b j = fld Fo b j) ∧ EF tag F Fo) → lv_has ls 4 [(0, .ref p0), (1, .int p1), (2, .int z135461), (3, .int z135460)] → W p l e { frames := 2, cells := 0, slots := 0, locals := 46 } s m args below meth c H locs 0 0 Q (F0 m 67 ls []) := by
        intro z135461 F H locs ls r9s135462 hT hfr hl
        have rz135461 := rg_all z135461
        obtain ⟨z135463, ez135463⟩ : ∃ y : Int32, y = z135460 + 1 := ⟨_, rfl⟩
        have hz135463 : z135463.toInt = z135460.toInt + 1 := ar_add ez135463 rfl (by decide : (1 : Int32).toInt = 1) (by omega) (by omega)
        refine lv_iinc (v := z135463) (lv' := [(3, .int z135463), (0, .ref p0), (1, .int p1), (2, .int z135461)]) hx hb dX11_worth_67 hl (k := 3) rfl (by rw [ez135463]; rfl) (by decide) rfl (fun ls hl => ?_)
        refine lv_goto (tgt := 18) hx hb dX11_worth_70 (by decide) ?_
        exact ih18 z135461 z135463 _ _ _ _ (by omega) (by omega) (by omega) hT hfr  (lv_sub hl [1, 2, 3, 0] rfl)
      refine lv_iload_n hx hb dX11_worth_18 rfl (lv_at hl 3 rfl) ?_
      refine lv_aload_n hx hb dX11_worth_19 rfl (lv_at hl 0 rfl) ?_
      refine t_get (C := RX11) (T := TX11) (N := 16) X hT m0 g0 rfl rfl 5 (by decide) qw_23 inlX11 rfl dX11_worth_20 (fun v135464 hv135464 ov135464 => ?_)
      obtain ⟨b135465, rfl, mb135465, gb135465⟩ := okV_r ov135464
      have gb135465 : tag b135465 = 19 := tg_of gb135465
      refine t_get (C := RX7) (T := TX7) (N := 7) X hT mb135465 gb135465 rfl rfl 2 (by decide) qw_766 inlX7 rfl dX11_worth_23 (fun v135466 hv135466 ov135466 => ?_)
      obtain ⟨b135467, rfl, mb135467, gb135467⟩ := okV_r ov135466
      have gb135467 : tag b135467 = 8 := tg_of gb135467
      refine lv_iload_n hx hb dX11_worth_26 rfl (lv_at hl 1 rfl) ?_
      refine t_ild X hT mb135467 gb135467 rfl (by omega) dX11_worth_27 (fun z135468 vz135468 rz135468 => ?_)
      have rz135468 : 0 ≤ z135468.toInt ∧ z135468.toInt ≤ 6 := rz135468
      refine lv_icmp_ge (tgt := 73) hx hb dX11_worth_28 (by decide) (fun c135469 => ?_) (fun c135469 => ?_)
      · have w135470 := cv_le (rfl : z135468.toInt = z135468.toInt) (rfl : z135460.toInt = z135460.toInt) c135469
        refine lv_aload_n hx hb dX11_worth_73 rfl (lv_at hl 0 rfl) ?_
        refine lv_iload_n hx hb dX11_worth_74 rfl (lv_at hl 2 rfl) ?_
        refine t_cVi (n := 1) (C := RX11) (T := TX11) (N := 16) (As := [.int z135459]) (rest := []) X hT (kt350_X11_answer l G tag L F hT.2.2.2 p0 z135459 m0 g0) m0 g0 rfl rfl qw_463 qw_464 qw_465 qw_2 qw_466 ⟨rfl, by decide +kernel, by decide +kernel, by decide +kernel⟩ ⟨Nat.le_of_ble_eq_true rfl, Nat.le_of_ble_eq_true rfl⟩ hl rfl rfl (Nat.le_of_ble_eq_true rfl) dX11_worth_75 ⟨Nat.le_of_ble_eq_true rfl, Nat.le_of_ble_eq_true rfl⟩ (fun z135471 F H locs hT hz135471 => ?_)
        obtain ⟨hz135471, yz135471⟩ := hz135471
        have hv135464 := (yz135471.1 _ 5 (Or.inr (by decide))).trans hv135464
        have hv135466 := (yz135471.1 _ 2 (Or.inr (by decide))).trans hv135466
        have hfr : (∀ b j : Nat, (tag b ≠ 26 ∨ j ≠ 13) → fld F b j = fld Fo b j) ∧ EF tag F Fo := ⟨fun b j n26_13 => (yz135471.1 b j n26_13).trans (hfr.1 b j n26_13), fun b j hb => (yz135471.2 b j hb).trans (hfr.2 b j hb)⟩
        exact t_iret hQ X hT (⟨rg_all _, hfr⟩) (Nat.le_of_ble_eq_true rfl) (Nat.le_of_ble_eq_true rfl) dX11_worth_78
      · have w135472 := cv_nle (rfl : z135468.toInt = z135468.toInt) (rfl : z135460.toInt = z135460.toInt) c135469
        refine lv_aload_n hx hb dX11_worth_31 rfl (lv_at hl 0 rfl) ?_
        refine t_get (C := RX11) (T := TX11) (N := 16) X hT m0 g0 rfl rfl 5 (by decide) qw_23 inlX11 rfl dX11_worth_32 (fun v135473 hv135473 ov135473 => ?_)
        obtain rfl : v135473 = .ref b135465 := hv135473.symm.trans hv135464
        refine lv_iload_n hx hb dX11_worth_35 rfl (lv_at hl 1 rfl) ?_
        refine lv_iload_n hx hb dX11_worth_36 rfl (lv_at hl 3 rfl) ?_
        refine t_cVi (n := 2) (C := RX7) (T := TX7) (N := 7) (As := [.int p1, .int z135460]) (rest := []) X hT (kt312_X7_stands l G tag L F hT.2.2.2 b135465 p1 z135460 mb135465 gb135465) mb135465 gb135465 rfl rfl qw_852 qw_853 qw_854 qw_22 qw_855 ⟨rfl, by decide +kernel, by decide +kernel, by decide +kernel⟩ ⟨Nat.le_of_ble_eq_true rfl, Nat.le_of_ble_eq_true rfl⟩ hl rfl rfl (Nat.le_of_ble_eq_true rfl) dX11_worth_37 ⟨Nat.le_of_ble_eq_true rfl, Nat.le_of_ble_eq_true rfl⟩ (fun z135474 F9 H locs hT hz135474 => ?_)
        obtain ⟨fz135474, hz135474⟩ := hz135474
        rw [fz135474] at hT
        refine lv_if_eq (tgt := 67) hx hb dX11_worth_40 (by decide) (fun c135475 => ?_) (fun c135475 => ?_)
        · have w135476 := cv_eq (rfl : z135474.toInt = z135474.toInt) (by decide : (0 : Int32).toInt = 0) c135475
          exact K67 z135459 _ _ _ _ (by omega) hT hfr  (lv_sub hl [0, 1, 2, 3] rfl)
        · have w135477 := cv_ne (rfl : z135474.toInt = z135474.toInt) (by decide : (0 : Int32).toInt = 0) c135475
          refine lv_aload_n hx hb dX11_worth_43 rfl (lv_at hl 0 rfl) ?_
          refine lv_iload_n hx hb dX11_worth_44 rfl (lv_at hl 1 rfl) ?_
          refine lv_iload_n hx hb dX11_worth_45 rfl (lv_at hl 3 rfl) ?_
          refine t_cVi (n := 2) (C := RX11) (T := TX11) (N := 16) (As := [.int p1, .int z135460]) (rest := []) X hT (kt368_X11_isLivedIn l G tag L F hT.2.2.2 p0 p1 z135460 m0 g0) m0 g0 rfl rfl qw_1316 qw_1317 qw_1318 qw_2 qw_1319 ⟨rfl, by decide +kernel, by decide +kernel, by decide +kernel⟩ ⟨Nat.le_of_ble_eq_true rfl, Nat.le_of_ble_eq_true rfl⟩ hl rfl rfl (Nat.le_of_ble_eq_true rfl) dX11_worth_46 ⟨Nat.le_of_ble_eq_true rfl, Nat.le_of_ble_eq_true rfl⟩ (fun z135478 F9 H locs hT hz135478 => ?_)
          obtain ⟨fz135478, hz135478⟩ := hz135478
          rw [fz135478] at hT
          refine lv_if_eq (tgt := 58) hx hb dX11_worth_49 (by decide) (fun c135479 => ?_) (fun c135479 => ?_)
          · have w135480 := cv_eq (rfl : z135478.toInt = z135478.toInt) (by decide : (0 : Int32).toInt = 0) c135479
            refine lv_iload_n hx hb dX11_worth_58 rfl (lv_at hl 2 rfl) ?_
            refine lv_aload_n hx hb dX11_worth_59 rfl (lv_at hl 0 rfl) ?_
            refine lv_iload_n hx hb dX11_worth_60 rfl (lv_at hl 1 rfl) ?_
            refine lv_iload_n hx hb dX11_worth_61 rfl (lv_at hl 3 rfl) ?_
            refine t_cVi (n := 2) (C := RX11) (T := TX11) (N := 16) (As := [.int p1, .int z135460]) (rest := [.int z135459]) X hT (kt376_X11_goldIn l G tag L F hT.2.2.2 p0 p1 z135460 m0 g0) m0 g0 rfl rfl qw_1296 qw_1297 qw_1298 qw_2 qw_1299 ⟨rfl, by decide +kernel, by decide +kernel, by decide +kernel⟩ ⟨Nat.le_of_ble_eq_true rfl, Nat.le_of_ble_eq_true rfl⟩ hl rfl rfl (Nat.le_of_ble_eq_true rfl) dX11_worth_62 ⟨Nat.le_of_ble_eq_true rfl, Nat.le_of_ble_eq_true rfl⟩ (fun z135481 F9 H locs hT hz135481 => ?_)
            obtain ⟨fz135481, hz135481⟩ := hz135481
            rw [fz135481] at hT
            refine lv_iadd hx hb dX11_worth_65 ?_
            refine lv_topi (fun z135482 ez135482 => ?_)
            have rz135482 := rg_all z135482
            refine lv_istore_n (lv' := [(2, .int z135482), (0, .ref p0), (1, .int p1), (3, .int z135460)]) hx hb dX11_worth_66 rfl hl (by decide) rfl (fun ls hl => ?_)
            exact K67 z135482 _ _ _ _ (by omega) hT hfr  (lv_sub hl [1, 2, 0, 3] rfl)
          · have w135483 := cv_ne (rfl : z135478.toInt = z135478.toInt) (by decide : (0 : Int32).toInt = 0) c135479
            refine lv_aload_n hx hb dX11_worth_52 rfl (lv_at hl 0 rfl) ?_
            refine lv_iload_n hx hb dX11_worth_53 rfl (lv_at hl 2 rfl) ?_
            refine t_cVi (n := 1) (C := RX11) (T := TX11) (N := 16) (As := [.int z135459]) (rest := []) X hT (kt350_X11_answer l G tag L F hT.2.2.2 p0 z135459 m0 g0) m0 g0 rfl rfl qw_463 qw_464 qw_465 qw_2 qw_466 ⟨rfl, by decide +kernel, by decide +kernel, by decide +kernel⟩ ⟨Nat.le_of_ble_eq_true rfl, Nat.le_of_ble_eq_true rfl⟩ hl rfl rfl (Nat.le_of_ble_eq_true rfl) dX11_worth_54 ⟨Nat.le_of_ble_eq_true rfl, Nat.le_of_ble_eq_true rfl⟩ (fun z135484 F H locs hT hz135484 => ?_)
            obtain ⟨hz135484, yz135484⟩ := hz135484
            have hv135464 := (yz135484.1 _ 5 (Or.inr (by decide))).trans hv135464
            have hv135466 := (yz135484.1 _ 2 (Or.inr (by decide))).trans hv135466
            have hfr : (∀ b j : Nat, (tag b ≠ 26 ∨ j ≠ 13) → fld F b j = fld Fo b j) ∧ EF tag F Fo := ⟨fun b j n26_13 => (yz135484.1 b j n26_13).trans (hfr.1 b j n26_13), fun b j hb => (yz135484.2 b j hb).trans (hfr.2 b j hb)⟩
            exact t_iret hQ X hT (⟨rg_all _, hfr⟩) (Nat.le_of_ble_eq_true rfl) (Nat.le_of_ble_eq_true rfl) dX11_worth_57
  refine lv_aload_n hx hb dX11_worth_0 rfl (lv_at hl 0 rfl) ?_
  refine lv_iload_n hx hb dX11_worth_1 rfl (lv_at hl 1 rfl) ?_
  refine t_cVi (n := 1) (C := RX11) (T := TX11) (N := 16) (As := [.int p1]) (rest := []) X hT (kt355_X11_isHouse l G tag L F hT.2.2.2 p0 p1 m0 g0) m0 g0 rfl rfl qw_770 qw_771 qw_772 qw_2 qw_773 ⟨rfl, by decide +kernel, by decide +kernel, by decide +kernel⟩ ⟨Nat.le_of_ble_eq_true rfl, Nat.le_of_ble_eq_true rfl⟩ hl rfl rfl (Nat.le_of_ble_eq_true rfl) dX11_worth_2 ⟨Nat.le_of_ble_eq_true rfl, Nat.le_of_ble_eq_true rfl⟩ (fun z135485 F9 H locs hT hz135485 => ?_)
  obtain ⟨fz135485, hz135485⟩ := hz135485
  rw [fz135485] at hT
  obtain ⟨hz135485, iz135485⟩ := hz135485
  refine lv_if_ne (tgt := 14) hx hb dX11_worth_5 (by decide) (fun c135486 => ?_) (fun c135486 => ?_)
  · have w135487 := cv_ne (rfl : z135485.toInt = z135485.toInt) (by decide : (0 : Int32).toInt = 0) c135486
    have w135488 := (fun h => (iz135485 h)) (by omega)
    refine lv_iconst (v := 0) hx hb dX11_worth_14 (by decide) ?_
    refine lv_istore_n (lv' := [(2, .int 0), (0, .ref p0), (1, .int p1)]) hx hb dX11_worth_15 rfl hl (by decide) rfl (fun ls hl => ?_)
    refine lv_iconst (v := 1) hx hb dX11_worth_16 (by decide) ?_
    refine lv_istore_n (lv' := [(3, .int 1), (2, .int 0), (0, .ref p0), (1, .int p1)]) hx hb dX11_worth_17 rfl hl (by decide) rfl (fun ls hl => ?_)
    have kk135489 : (0 : Int32).toInt = 0 := by decide
    have kk135490 : (1 : Int32).toInt = 1 := by decide
    exact K18 6 0 1 _ _ _ _ (by omega) (by decide) (by omega) hT hfr  (lv_sub hl [2, 3, 1, 0] rfl)
  · have w135491 := cv_eq (rfl : z135485.toInt = z135485.toInt) (by decide : (0 : Int32).toInt = 0) c135486
    refine lv_aload_n hx hb dX11_worth_8 rfl (lv_at hl 0 rfl) ?_
    refine lv_iconst (v := 1) hx hb dX11_worth_9 (by decide) ?_
    refine t_cVi (n := 1) (C := RX11) (T := TX11) (N := 16) (As := [.int 1]) (rest := []) X hT (kt357_X11_refuse l G tag L F hT.2.2.2 p0 1 m0 g0) m0 g0 rfl rfl qw_152 qw_153 qw_154 qw_2 qw_155 ⟨rfl, by decide +kernel, by decide +kernel, by decide +kernel⟩ ⟨Nat.le_of_ble_eq_true rfl, Nat.le_of_ble_eq_true rfl⟩ hl rfl rfl (Nat.le_of_ble_eq_true rfl) dX11_worth_10 ⟨Nat.le_of_ble_eq_true rfl, Nat.le_of_ble_eq_true rfl⟩ (fun z135492 F H locs hT hz135492 => ?_)
    obtain ⟨hz135492, yz135492⟩ := hz135492
    have hfr : (∀ b j : Nat, (tag b ≠ 26 ∨ j ≠ 13) → fld F b j = fld Fo b j) ∧ EF tag F Fo := ⟨fun b j n26_13 => (yz135492.1 b j n26_13).trans (hfr.1 b j n26_13), fun b j hb => (yz135492.2 b j hb).trans (hfr.2 b j hb)⟩
    exact t_iret hQ X hT (⟨rg_all _, hfr⟩) (Nat.le_of_ble_eq_true rfl) (Nat.le_of_ble_eq_true rfl) dX11_worth_13
set_option maxHeartbeats 4000000 in
set_option maxRecDepth 100000 in
theorem kt428_X11_years (l : Launch) (G : KG) (tag : Nat → Nat) (L : List Nat) (Fo : Nat → va_E) (ho : okT G ttC tag L Fo) (p0 : Nat) (p1 : Int32) (m0 : p0 ∈ L) (g0 : tag p0 = 26) : TMi l yX11_years cX11_years 3 (some .int) { frames := 6, cells := 0, slots := 0, locals := 157 } G ttC tag L Fo [.ref p0, .int p1] (fun r F1 => ((-2147483648) ≤ r.toInt ∧ r.toInt ≤ 2147483647) ∧ ((∀ b j : Nat, (tag b ≠ 19 ∨ j ≠ 0) → (tag b ≠ 19 ∨ j ≠ 1) → (tag b ≠ 23 ∨ j ≠ 2) → (tag b ≠ 23 ∨ j ≠ 3) → (tag b ≠ 26 ∨ j ≠ 13) → fld F1 b j = fld Fo b j) ∧ EF tag F1 Fo)) := by
  refine t_bodyi (y := yX11_years) (cd := cX11_years) (mL := 3) (rt := (some .int)) (rm := { frames := 6, cells := 0, slots := 0, locals := 157 }) (av := [.ref p0, .int p1]) (by decide) (Nat.le_of_ble_eq_true rfl) ho ?_
  intro p e s m args below meth c ls A Q hQ X hT hl
  have hx := X.1.1
  have hb := X.1.2.1
  have hl : lv_has ls 3 [(0, .ref p0), (1, .int p1)] := hl
  have rp1 := rg_all p1
  obtain ⟨F, hFo⟩ : ∃ F : Nat → va_E, F = Fo := ⟨_, rfl⟩
  rw [← hFo] at hT
  have hfr : (∀ b j : Nat, (tag b ≠ 19 ∨ j ≠ 0) → (tag b ≠ 19 ∨ j ≠ 1) → (tag b ≠ 23 ∨ j ≠ 2) → (tag b ≠ 23 ∨ j ≠ 3) → (tag b ≠ 26 ∨ j ≠ 13) → fld F b j = fld Fo b j) ∧ EF tag F Fo := by
    rw [hFo]
    exact ⟨by intros; rfl, fun _ _ _ => rfl⟩
  have K24 : ∀ (z136148 : Int32) (F : Nat → va_E) (H : Heap) (locs : List Loc) (ls : Array Slot), (1 ≤ z136148.toInt ∧ z136148.toInt ≤ 1) → TH G ttC A s tag L F H locs → ((∀ b j : Nat, (tag b ≠ 19 ∨ j ≠ 0) → (tag b ≠ 19 ∨ j ≠ 1) → (tag b ≠ 23 ∨ j ≠ 2) → (tag b ≠ 23 ∨ j ≠ 3) → (tag b ≠ 26 ∨ j ≠ 13) → fld F b j = fld Fo b j) ∧ EF tag F Fo) → fld F p0 2 = .int z136148 → lv_has ls 3 [(0, .ref p0), (1, .int p1)] → W p l e { frames := 6, cells := 0, slots := 0, locals := 157 } s m args below meth c H locs 0 0 Q (F0 m 24 ls []) := by
    intro z136148 F H locs ls rz136148 hT hfr qz136148 hl
    refine lv_aload_n hx hb dX11_years_24 rfl (lv_at hl 0 rfl) ?_
    refine lv_iconst (v := 2) hx hb dX11_years_25 (by decide) ?_
    refine t_cVi (n := 1) (C := RX11) (T := TX11) (N := 16) (As := [.int 2]) (rest := []) X hT (kt357_X11_refuse l G tag L F hT.2.2.2 p0 2 m0 g0) m0 g0 rfl rfl qw_152 qw_153 qw_154 qw_2 qw_155 ⟨rfl, by decide +kernel, by decide +kernel, by decide +kernel⟩ ⟨Nat.le_of_ble_eq_true rfl, Nat.le_of_ble_eq_true rfl⟩ hl rfl rfl (Nat.le_of_ble_eq_true rfl) dX11_years_26 ⟨Nat.le_of_ble_eq_true rfl, Nat.le_of_ble_eq_true rfl⟩ (fun z136149 F H locs hT hz136149 => ?_)
    obtain ⟨hz136149, yz136149⟩ := hz136149
    have qz136148 := (yz136149.1 _ 2 (Or.inr (by decide))).trans qz136148
    have hfr : (∀ b j : Nat, (tag b ≠ 19 ∨ j ≠ 0) → (tag b ≠ 19 ∨ j ≠ 1) → (tag b ≠ 23 ∨ j ≠ 2) → (tag b ≠ 23 ∨ j ≠ 3) → (tag b ≠ 26 ∨ j ≠ 13) → fld F b j = fld Fo b j) ∧ EF tag F Fo := ⟨fun b j n19_0 n19_1 n23_2 n23_3 n26_13 => (yz136149.1 b j n26_13).trans (hfr.1 b j n19_0 n19_1 n23_2 n23_3 n26_13), fun b j hb => (yz136149.2 b j hb).trans (hfr.2 b j hb)⟩
    exact t_iret hQ X hT (⟨rg_all _, hfr⟩) (Nat.le_of_ble_eq_true rfl) (Nat.le_of_ble_eq_true rfl) dX11_years_29
  have K64 : ∀ (n : Nat) (z136151 : Int32) (z136152 : Int32) (F : Nat → va_E) (H : Heap) (locs : List Loc) (ls : Array Slot), (20 - z136151.toInt < (n : Int)) → (0 ≤ z136151.toInt ∧ z136151.toInt ≤ 20) → (1 ≤ z136152.toInt ∧ z136152.toInt ≤ 1) → (1 ≤ p1.toInt ∧ p1.toInt ≤ 20) → TH G ttC A s tag L F H locs → ((∀ b j : Nat, (tag b ≠ 19 ∨ j ≠ 0) → (tag b ≠ 19 ∨ j ≠ 1) → (tag b ≠ 23 ∨ j ≠ 2) → (tag b ≠ 23 ∨ j ≠ 3) → (tag b ≠ 26 ∨ j ≠ 13) → fld F b j = fld Fo b j) ∧ EF tag F Fo) → fld F p0 2 = .int z136152 → lv_has ls 3 [(0, .ref p0), (1, .int p1), (2, .int z136151)] → W p l e { frames := 6, cells := 0, slots := 0, locals := 157 } s m args below meth c H locs 0 0 Q (F0 m 64 ls []) := by
    intro n
    induction n with
    | zero =>
      intro z136151 z136152 F H locs ls hn rz136151 rz136152 r9s136150 hT hfr qz136152 hl
      exfalso
      omega
    | succ n ih64 =>
      intro z136151 z136152 F H locs ls hn rz136151 rz136152 r9s136150 hT hfr qz136152 hl
      refine lv_iload_n hx hb dX11_years_64 rfl (lv_at hl 2 rfl) ?_
      refine lv_iload_n hx hb dX11_years_65 rfl (lv_at hl 1 rfl) ?_
      refine lv_icmp_ge (tgt := 89) hx hb dX11_years_66 (by decide) (fun c136153 => ?_) (fun c136153 => ?_)
      · have w136154 := cv_le (rfl : p1.toInt = p1.toInt) (rfl : z136151.toInt = z136151.toInt) c136153
        refine lv_aload_n hx hb dX11_years_89 rfl (lv_at hl 0 rfl) ?_
        refine lv_aload_n hx hb dX11_years_90 rfl (lv_at hl 0 rfl) ?_
        refine t_get (C := RX11) (T := TX11) (N := 16) X hT m0 g0 rfl rfl 5 (by decide) qw_23 inlX11 rfl dX11_years_91 (fun v136155 hv136155 ov136155 => ?_)
        obtain ⟨b136156, rfl, mb136156, gb136156⟩ := okV_r ov136155
        have gb136156 : tag b136156 = 19 := tg_of gb136156
        refine t_cVi (n := 0) (C := RX7) (T := TX7) (N := 7) (As := []) (rest := [.ref p0]) X hT (kt317_X7_skinsOfAll l G tag L F hT.2.2.2 b136156 mb136156 gb136156) mb136156 gb136156 rfl rfl qw_1182 qw_1183 qw_1184 qw_22 qw_1185 ⟨rfl, by decide +kernel, by decide +kernel, by decide +kernel⟩ ⟨Nat.le_of_ble_eq_true rfl, Nat.le_of_ble_eq_true rfl⟩ hl rfl rfl (Nat.le_of_ble_eq_true rfl) dX11_years_94 ⟨Nat.le_of_ble_eq_true rfl, Nat.le_of_ble_eq_true rfl⟩ (fun z136157 F9 H locs hT hz136157 => ?_)
        obtain ⟨fz136157, hz136157⟩ := hz136157
        rw [fz136157] at hT
        refine t_cVi (n := 1) (C := RX11) (T := TX11) (N := 16) (As := [.int z136157]) (rest := []) X hT (kt350_X11_answer l G tag L F hT.2.2.2 p0 z136157 m0 g0) m0 g0 rfl rfl qw_463 qw_464 qw_465 qw_2 qw_466 ⟨rfl, by decide +kernel, by decide +kernel, by decide +kernel⟩ ⟨Nat.le_of_ble_eq_true rfl, Nat.le_of_ble_eq_true rfl⟩ hl rfl rfl (Nat.le_of_ble_eq_true rfl) dX11_years_97 ⟨Nat.le_of_ble_eq_true rfl, Nat.le_of_ble_eq_true rfl⟩ (fun z136158 F H locs hT hz136158 => ?_)
        obtain ⟨hz136158, yz136158⟩ := hz136158
        have qz136152 := (yz136158.1 _ 2 (Or.inr (by decide))).trans qz136152
        have hv136155 := (yz136158.1 _ 5 (Or.inr (by decide))).trans hv136155
        have hfr : (∀ b j : Nat, (tag b ≠ 19 ∨ j ≠ 0) → (tag b ≠ 19 ∨ j ≠ 1) → (tag b ≠ 23 ∨ j ≠ 2) → (tag b ≠ 23 ∨ j ≠ 3) → (tag b ≠ 26 ∨ j ≠ 13) → fld F b j = fld Fo b j) ∧ EF tag F Fo := ⟨fun b j n19_0 n19_1 n23_2 n23_3 n26_13 => (yz136158.1 b j n26_13).trans (hfr.1 b j n19_0 n19_1 n23_2 n23_3 n26_13), fun b j hb => (yz136158.2 b j hb).trans (hfr.2 b j hb)⟩
        exact t_iret hQ X hT (⟨rg_all _, hfr⟩) (Nat.le_of_ble_eq_true rfl) (Nat.le_of_ble_eq_true rfl) dX11_years_100
      · have w136159 := cv_nle (rfl : p1.toInt = p1.toInt) (rfl : z136151.toInt = z136151.toInt) c136153
        refine lv_aload_n hx hb dX11_years_69 rfl (lv_at hl 0 rfl) ?_
        refine t_get (C := RX11) (T := TX11) (N := 16) X hT m0 g0 rfl rfl 3 (by decide) qw_18 inlX11 rfl dX11_years_70 (fun v136160 hv136160 ov136160 => ?_)
        obtain ⟨b136161, rfl, mb136161, gb136161⟩ := okV_r ov136160
        have gb136161 : tag b136161 = 18 := tg_of gb136161
        refine lv_aload_n hx hb dX11_years_73 rfl (lv_at hl 0 rfl) ?_
        refine t_get (C := RX11) (T := TX11) (N := 16) X hT m0 g0 rfl rfl 5 (by decide) qw_23 inlX11 rfl dX11_years_74 (fun v136162 hv136162 ov136162 => ?_)
        obtain ⟨b136163, rfl, mb136163, gb136163⟩ := okV_r ov136162
        have gb136163 : tag b136163 = 19 := tg_of gb136163
        refine t_gets X hT X.2.2.2.1.2.1.2.2.2 qw_1096 dX11_years_77 ?_
        refine t_cSv (n := 3) (As := [.ref b136161, .ref b136163, .ref (G.2 13)]) (rest := []) X hT (kt365_X10_pass l G tag L F hT.2.2.2 b136161 b136163 mb136161 gb136161 mb136163 gb136163) qw_1097 qw_1098 qw_32 qw_1099 ⟨by decide +kernel, by decide +kernel, by decide +kernel⟩ ⟨Nat.le_of_ble_eq_true rfl, Nat.le_of_ble_eq_true rfl⟩ hl rfl rfl (Nat.le_of_ble_eq_true rfl) dX11_years_80 ⟨Nat.le_of_ble_eq_true rfl, Nat.le_of_ble_eq_true rfl⟩ (fun F H locs hT hz136164 => ?_)
        have yz136164 := hz136164
        have qz136152 := (yz136164.1 _ 2 (Or.inr (by decide)) (Or.inr (by decide))).trans qz136152
        have hv136160 := (yz136164.1 _ 3 (Or.inr (by decide)) (Or.inr (by decide))).trans hv136160
        have hv136162 := (yz136164.1 _ 5 (Or.inr (by decide)) (Or.inr (by decide))).trans hv136162
        have hfr : (∀ b j : Nat, (tag b ≠ 19 ∨ j ≠ 0) → (tag b ≠ 19 ∨ j ≠ 1) → (tag b ≠ 23 ∨ j ≠ 2) → (tag b ≠ 23 ∨ j ≠ 3) → (tag b ≠ 26 ∨ j ≠ 13) → fld F b j = fld Fo b j) ∧ EF tag F Fo := ⟨fun b j n19_0 n19_1 n23_2 n23_3 n26_13 => (yz136164.1 b j n19_0 n19_1).trans (hfr.1 b j n19_0 n19_1 n23_2 n23_3 n26_13), fun b j hb => (yz136164.2 b j hb).trans (hfr.2 b j hb)⟩
        obtain ⟨z136165, ez136165⟩ : ∃ y : Int32, y = z136151 + 1 := ⟨_, rfl⟩
        have hz136165 : z136165.toInt = z136151.toInt + 1 := ar_add ez136165 rfl (by decide : (1 : Int32).toInt = 1) (by omega) (by omega)
        refine lv_iinc (v := z136165) (lv' := [(2, .int z136165), (0, .ref p0), (1, .int p1)]) hx hb dX11_years_83 hl (k := 2) rfl (by rw [ez136165]; rfl) (by decide) rfl (fun ls hl => ?_)
        refine lv_goto (tgt := 64) hx hb dX11_years_86 (by decide) ?_
        exact ih64 z136165 z136152 _ _ _ _ (by omega) (by omega) (by omega) (by omega) hT hfr qz136152 (lv_sub hl [1, 2, 0] rfl)
  refine lv_aload_n hx hb dX11_years_0 rfl (lv_at hl 0 rfl) ?_
  refine t_get (C := RX11) (T := TX11) (N := 16) X hT m0 g0 rfl rfl 2 (by decide) qw_150 inlX11 rfl dX11_years_1 (fun v136166 hv136166 ov136166 => ?_)
  obtain ⟨z136167, rfl, rz136167⟩ := okV_i ov136166
  refine lv_if_ne (tgt := 13) hx hb dX11_years_4 (by decide) (fun c136168 => ?_) (fun c136168 => ?_)
  · have w136169 := cv_ne (rfl : z136167.toInt = z136167.toInt) (by decide : (0 : Int32).toInt = 0) c136168
    refine lv_iload_n hx hb dX11_years_13 rfl (lv_at hl 1 rfl) ?_
    refine lv_iconst (v := 1) hx hb dX11_years_14 (by decide) ?_
    refine lv_icmp_lt (tgt := 24) hx hb dX11_years_15 (by decide) (fun c136170 => ?_) (fun c136170 => ?_)
    · have w136171 := cv_lt (rfl : p1.toInt = p1.toInt) (by decide : (1 : Int32).toInt = 1) c136170
      exact K24 z136167 _ _ _ _ (by omega) hT hfr hv136166 (lv_sub hl [0, 1] rfl)
    · have w136172 := cv_nlt (rfl : p1.toInt = p1.toInt) (by decide : (1 : Int32).toInt = 1) c136170
      refine lv_iload_n hx hb dX11_years_18 rfl (lv_at hl 1 rfl) ?_
      refine lv_bipush (v := 20) hx hb dX11_years_19 (by decide) ?_
      refine lv_icmp_le (tgt := 30) hx hb dX11_years_21 (by decide) (fun c136173 => ?_) (fun c136173 => ?_)
      · have w136174 := cv_le (rfl : p1.toInt = p1.toInt) (by decide : (20 : Int32).toInt = 20) c136173
        refine lv_aload_n hx hb dX11_years_30 rfl (lv_at hl 0 rfl) ?_
        refine t_get (C := RX11) (T := TX11) (N := 16) X hT m0 g0 rfl rfl 5 (by decide) qw_23 inlX11 rfl dX11_years_31 (fun v136175 hv136175 ov136175 => ?_)
        obtain ⟨b136176, rfl, mb136176, gb136176⟩ := okV_r ov136175
        have gb136176 : tag b136176 = 19 := tg_of gb136176
        refine t_get (C := RX7) (T := TX7) (N := 7) X hT mb136176 gb136176 rfl rfl 0 (by decide) qw_1225 inlX7 rfl dX11_years_34 (fun v136177 hv136177 ov136177 => ?_)
        obtain ⟨z136178, rfl, rz136178⟩ := okV_i ov136177
        refine lv_iload_n hx hb dX11_years_37 rfl (lv_at hl 1 rfl) ?_
        refine lv_iadd hx hb dX11_years_38 ?_
        refine lv_topi (fun z136179 ez136179 => ?_)
        have rz136179 := rg_all z136179
        refine lv_sipush (v := 999) hx hb dX11_years_39 (by decide) ?_
        refine lv_icmp_le (tgt := 51) hx hb dX11_years_42 (by decide) (fun c136180 => ?_) (fun c136180 => ?_)
        · have w136181 := cv_le (rfl : z136179.toInt = z136179.toInt) (by decide : (999 : Int32).toInt = 999) c136180
          refine lv_aload_n hx hb dX11_years_51 rfl (lv_at hl 0 rfl) ?_
          refine t_get (C := RX11) (T := TX11) (N := 16) X hT m0 g0 rfl rfl 12 (by decide) qw_45 inlX11 rfl dX11_years_52 (fun v136182 hv136182 ov136182 => ?_)
          obtain ⟨b136183, rfl, mb136183, gb136183⟩ := okV_r ov136182
          have gb136183 : tag b136183 = 23 := tg_of gb136183
          refine lv_aload_n hx hb dX11_years_55 rfl (lv_at hl 0 rfl) ?_
          refine t_get (C := RX11) (T := TX11) (N := 16) X hT m0 g0 rfl rfl 5 (by decide) qw_23 inlX11 rfl dX11_years_56 (fun v136184 hv136184 ov136184 => ?_)
          obtain rfl : v136184 = .ref b136176 := hv136184.symm.trans hv136175
          refine t_cVv (n := 1) (C := RX2) (T := TX2) (N := 5) (As := [.ref b136176]) (rest := []) X hT (kt360_X2_keep l G tag L F hT.2.2.2 b136183 b136176 mb136183 gb136183 mb136176 gb136176) mb136183 gb136183 rfl rfl qw_1427 qw_1428 qw_1429 qw_44 qw_1430 ⟨rfl, by decide +kernel, by decide +kernel, by decide +kernel⟩ ⟨Nat.le_of_ble_eq_true rfl, Nat.le_of_ble_eq_true rfl⟩ hl rfl rfl (Nat.le_of_ble_eq_true rfl) dX11_years_59 ⟨Nat.le_of_ble_eq_true rfl, Nat.le_of_ble_eq_true rfl⟩ (fun F H locs hT hz136185 => ?_)
          have yz136185 := hz136185
          have hv136166 := (yz136185.1 _ 2 (Or.inr (by decide)) (Or.inr (by decide)) (Or.inl (by rw [g0]; decide)) (Or.inr (by decide))).trans hv136166
          have hv136175 := (yz136185.1 _ 5 (Or.inr (by decide)) (Or.inr (by decide)) (Or.inr (by decide)) (Or.inr (by decide))).trans hv136175
          have hv136182 := (yz136185.1 _ 12 (Or.inr (by decide)) (Or.inr (by decide)) (Or.inr (by decide)) (Or.inr (by decide))).trans hv136182
          have hfr : (∀ b j : Nat, (tag b ≠ 19 ∨ j ≠ 0) → (tag b ≠ 19 ∨ j ≠ 1) → (tag b ≠ 23 ∨ j ≠ 2) → (tag b ≠ 23 ∨ j ≠ 3) → (tag b ≠ 26 ∨ j ≠ 13) → fld F b j = fld Fo b j) ∧ EF tag F Fo := ⟨fun b j n19_0 n19_1 n23_2 n23_3 n26_13 => (yz136185.1 b j n19_0 n19_1 n23_2 n23_3).trans (hfr.1 b j n19_0 n19_1 n23_2 n23_3 n26_13), fun b j hb => (yz136185.2 b j hb).trans (hfr.2 b j hb)⟩
          refine lv_iconst (v := 0) hx hb dX11_years_62 (by decide) ?_
          refine lv_istore_n (lv' := [(2, .int 0), (0, .ref p0), (1, .int p1)]) hx hb dX11_years_63 rfl hl (by decide) rfl (fun ls hl => ?_)
          have kk136186 : (0 : Int32).toInt = 0 := by decide
          exact K64 21 0 z136167 _ _ _ _ (by omega) (by decide) (by omega) (by omega) hT hfr hv136166 (lv_sub hl [1, 2, 0] rfl)
        · have w136187 := cv_nle (rfl : z136179.toInt = z136179.toInt) (by decide : (999 : Int32).toInt = 999) c136180
          refine lv_aload_n hx hb dX11_years_45 rfl (lv_at hl 0 rfl) ?_
          refine lv_iconst (v := 3) hx hb dX11_years_46 (by decide) ?_
          refine t_cVi (n := 1) (C := RX11) (T := TX11) (N := 16) (As := [.int 3]) (rest := []) X hT (kt357_X11_refuse l G tag L F hT.2.2.2 p0 3 m0 g0) m0 g0 rfl rfl qw_152 qw_153 qw_154 qw_2 qw_155 ⟨rfl, by decide +kernel, by decide +kernel, by decide +kernel⟩ ⟨Nat.le_of_ble_eq_true rfl, Nat.le_of_ble_eq_true rfl⟩ hl rfl rfl (Nat.le_of_ble_eq_true rfl) dX11_years_47 ⟨Nat.le_of_ble_eq_true rfl, Nat.le_of_ble_eq_true rfl⟩ (fun z136188 F H locs hT hz136188 => ?_)
          obtain ⟨hz136188, yz136188⟩ := hz136188
          have hv136166 := (yz136188.1 _ 2 (Or.inr (by decide))).trans hv136166
          have hv136175 := (yz136188.1 _ 5 (Or.inr (by decide))).trans hv136175
          have hv136177 := (yz136188.1 _ 0 (Or.inr (by decide))).trans hv136177
          have hfr : (∀ b j : Nat, (tag b ≠ 19 ∨ j ≠ 0) → (tag b ≠ 19 ∨ j ≠ 1) → (tag b ≠ 23 ∨ j ≠ 2) → (tag b ≠ 23 ∨ j ≠ 3) → (tag b ≠ 26 ∨ j ≠ 13) → fld F b j = fld Fo b j) ∧ EF tag F Fo := ⟨fun b j n19_0 n19_1 n23_2 n23_3 n26_13 => (yz136188.1 b j n26_13).trans (hfr.1 b j n19_0 n19_1 n23_2 n23_3 n26_13), fun b j hb => (yz136188.2 b j hb).trans (hfr.2 b j hb)⟩
          exact t_iret hQ X hT (⟨rg_all _, hfr⟩) (Nat.le_of_ble_eq_true rfl) (Nat.le_of_ble_eq_true rfl) dX11_years_50
      · have w136189 := cv_nle (rfl : p1.toInt = p1.toInt) (by decide : (20 : Int32).toInt = 20) c136173
        exact K24 z136167 _ _ _ _ (by omega) hT hfr hv136166 (lv_sub hl [0, 1] rfl)
  · have w136190 := cv_eq (rfl : z136167.toInt = z136167.toInt) (by decide : (0 : Int32).toInt = 0) c136168
    refine lv_aload_n hx hb dX11_years_7 rfl (lv_at hl 0 rfl) ?_
    refine lv_iconst (v := 1) hx hb dX11_years_8 (by decide) ?_
    refine t_cVi (n := 1) (C := RX11) (T := TX11) (N := 16) (As := [.int 1]) (rest := []) X hT (kt357_X11_refuse l G tag L F hT.2.2.2 p0 1 m0 g0) m0 g0 rfl rfl qw_152 qw_153 qw_154 qw_2 qw_155 ⟨rfl, by decide +kernel, by decide +kernel, by decide +kernel⟩ ⟨Nat.le_of_ble_eq_true rfl, Nat.le_of_ble_eq_true rfl⟩ hl rfl rfl (Nat.le_of_ble_eq_true rfl) dX11_years_9 ⟨Nat.le_of_ble_eq_true rfl, Nat.le_of_ble_eq_true rfl⟩ (fun z136191 F H locs hT hz136191 => ?_)
    obtain ⟨hz136191, yz136191⟩ := hz136191
    have hv136166 := (yz136191.1 _ 2 (Or.inr (by decide))).trans hv136166
    have hfr : (∀ b j : Nat, (tag b ≠ 19 ∨ j ≠ 0) → (tag b ≠ 19 ∨ j ≠ 1) → (tag b ≠ 23 ∨ j ≠ 2) → (tag b ≠ 23 ∨ j ≠ 3) → (tag b ≠ 26 ∨ j ≠ 13) → fld F b j = fld Fo b j) ∧ EF tag F Fo := ⟨fun b j n19_0 n19_1 n23_2 n23_3 n26_13 => (yz136191.1 b j n26_13).trans (hfr.1 b j n19_0 n19_1 n23_2 n23_3 n26_13), fun b j hb => (yz136191.2 b j hb).trans (hfr.2 b j hb)⟩
    exact t_iret hQ X hT (⟨rg_all _, hfr⟩) (Nat.le_of_ble_eq_true rfl) (Nat.le_of_ble_eq_true rfl) dX11_years_12
set_option maxHeartbeats 4000000 in
set_option maxRecDepth 100000 in
theorem kt429_X2_forget (l : Launch) (G : KG) (tag : Nat → Nat) (L : List Nat) (Fo : Nat → va_E) (ho : okT G ttC tag L Fo) (p0 : Nat) (m0 : p0 ∈ L) (g0 : tag p0 = 23) : TMv l yX2_forget cX2_forget 1 { frames := 0, cells := 0, slots := 0, locals := 0 } G ttC tag L Fo [.ref p0] (fun F1 => ((∀ b j : Nat, (tag b ≠ 23 ∨ j ≠ 3) → (tag b ≠ 23 ∨ j ≠ 4) → fld F1 b j = fld Fo b j) ∧ EF tag F1 Fo)) := by
  refine t_bodyv (y := yX2_forget) (cd := cX2_forget) (mL := 1) (rm := { frames := 0, cells := 0, slots := 0, locals := 0 }) (av := [.ref p0]) (by decide) (Nat.le_of_ble_eq_true rfl) ho ?_
  intro p e s m args below meth c ls A Q hQ X hT hl
  have hx := X.1.1
  have hb := X.1.2.1
  have hl : lv_has ls 1 [(0, .ref p0)] := hl
  obtain ⟨F, hFo⟩ : ∃ F : Nat → va_E, F = Fo := ⟨_, rfl⟩
  rw [← hFo] at hT
  have hfr : (∀ b j : Nat, (tag b ≠ 23 ∨ j ≠ 3) → (tag b ≠ 23 ∨ j ≠ 4) → fld F b j = fld Fo b j) ∧ EF tag F Fo := by
    rw [hFo]
    exact ⟨by intros; rfl, fun _ _ _ => rfl⟩
  refine lv_aload_n hx hb dX2_forget_0 rfl (lv_at hl 0 rfl) ?_
  refine lv_iconst (v := 0) hx hb dX2_forget_1 (by decide) ?_
  refine t_put (C := RX2) (T := TX2) (N := 5) (v := .int 0) X hT m0 g0 rfl tyX2 tyX2_ok nmX2 rfl 3 (by decide) qw_461 inlX2 rfl (by first | rfl | decide) (by first | rfl | decide) rfl (⟨_, rfl, (show 0 ≤ (0 : Int32).toInt from (by decide)), (show (0 : Int32).toInt ≤ 10 from (by decide))⟩) dX2_forget_2 (fun F H locs hT v136214 h1v136214 h2v136214 => ?_)
  have hfr : (∀ b j : Nat, (tag b ≠ 23 ∨ j ≠ 3) → (tag b ≠ 23 ∨ j ≠ 4) → fld F b j = fld Fo b j) ∧ EF tag F Fo := ⟨fun b j n23_3 n23_4 => (h1v136214 b j (fr_ne g0 n23_3)).trans (hfr.1 b j n23_3 n23_4), fun b j hb => (h2v136214 b j).trans (hfr.2 b j hb)⟩
  refine lv_aload_n hx hb dX2_forget_5 rfl (lv_at hl 0 rfl) ?_
  refine lv_iconst (v := 0) hx hb dX2_forget_6 (by decide) ?_
  refine t_put (C := RX2) (T := TX2) (N := 5) (v := .int 0) X hT m0 g0 rfl tyX2 tyX2_ok nmX2 rfl 4 (by decide) qw_462 inlX2 rfl (by first | rfl | decide) (by first | rfl | decide) rfl (⟨_, rfl, (show 0 ≤ (0 : Int32).toInt from (by decide)), (show (0 : Int32).toInt ≤ 3 from (by decide))⟩) dX2_forget_7 (fun F H locs hT v136215 h1v136215 h2v136215 => ?_)
  have v136214 := (h1v136215 _ _ (Or.inr (by decide))).trans v136214
  have hfr : (∀ b j : Nat, (tag b ≠ 23 ∨ j ≠ 3) → (tag b ≠ 23 ∨ j ≠ 4) → fld F b j = fld Fo b j) ∧ EF tag F Fo := ⟨fun b j n23_3 n23_4 => (h1v136215 b j (fr_ne g0 n23_4)).trans (hfr.1 b j n23_3 n23_4), fun b j hb => (h2v136215 b j).trans (hfr.2 b j hb)⟩
  exact t_vret hQ X hT hfr (Nat.le_of_ble_eq_true rfl) (Nat.le_of_ble_eq_true rfl) dX2_forget_10
set_option maxHeartbeats 4000000 in
set_option maxRecDepth 100000 in
theorem kt430_X3_isLineAgain (l : Launch) (G : KG) (tag : Nat → Nat) (L : List Nat) (F : Nat → va_E) (ho : okT G ttC tag L F) (p0 : Nat) (p1 : Int32) (m0 : p0 ∈ L) (g0 : tag p0 = 25) : TMi l yX3_isLineAgain cX3_isLineAgain 2 (some .boolean) { frames := 0, cells := 0, slots := 0, locals := 0 } G ttC tag L F [.ref p0, .int p1] (fun r F1 => F1 = F ∧ (0 ≤ r.toInt ∧ r.toInt ≤ 1)) := by
  refine t_bodyi (y := yX3_isLineAgain) (cd := cX3_isLineAgain) (mL := 2) (rt := (some .boolean)) (rm := { frames := 0, cells := 0, slots := 0, locals := 0 }) (av := [.ref p0, .int p1]) (by decide) (Nat.le_of_ble_eq_true rfl) ho ?_
  intro p e s m args below meth c ls A Q hQ X hT hl
  have hx := X.1.1
  have hb := X.1.2.1
  have hl : lv_has ls 2 [(0, .ref p0), (1, .int p1)] := hl
  have rp1 := rg_all p1
  have K23 : ∀  (H : Heap) (locs : List Loc) (ls : Array Slot), (0 ≤ p1.toInt ∧ p1.toInt ≤ 1) → TH G ttC A s tag L F H locs → lv_has ls 2 [(0, .ref p0), (1, .int p1)] → W p l e { frames := 0, cells := 0, slots := 0, locals := 0 } s m args below meth c H locs 0 0 Q (F0 m 23 ls []) := by
    intro H locs ls r9s136424 hT hl
    refine lv_iconst (v := 1) hx hb dX3_isLineAgain_23 (by decide) ?_
    refine lv_goto (tgt := 28) hx hb dX3_isLineAgain_24 (by decide) ?_
    exact t_zret hQ X hT (by decide) (⟨rfl, (by decide)⟩) (Nat.le_of_ble_eq_true rfl) (Nat.le_of_ble_eq_true rfl) dX3_isLineAgain_28
  have K11 : ∀  (H : Heap) (locs : List Loc) (ls : Array Slot), TH G ttC A s tag L F H locs → lv_has ls 2 [(0, .ref p0), (1, .int p1)] → W p l e { frames := 0, cells := 0, slots := 0, locals := 0 } s m args below meth c H locs 0 0 Q (F0 m 11 ls []) := by
    intro H locs ls hT hl
    refine lv_iload_n hx hb dX3_isLineAgain_11 rfl (lv_at hl 1 rfl) ?_
    refine lv_iconst (v := 1) hx hb dX3_isLineAgain_12 (by decide) ?_
    refine lv_icmp_ne (tgt := 27) hx hb dX3_isLineAgain_13 (by decide) (fun c136425 => ?_) (fun c136425 => ?_)
    · have w136426 := cv_ne (rfl : p1.toInt = p1.toInt) (by decide : (1 : Int32).toInt = 1) c136425
      refine lv_iconst (v := 0) hx hb dX3_isLineAgain_27 (by decide) ?_
      exact t_zret hQ X hT (by decide) (⟨rfl, (by decide)⟩) (Nat.le_of_ble_eq_true rfl) (Nat.le_of_ble_eq_true rfl) dX3_isLineAgain_28
    · have w136427 := cv_eq (rfl : p1.toInt = p1.toInt) (by decide : (1 : Int32).toInt = 1) c136425
      refine lv_aload_n hx hb dX3_isLineAgain_16 rfl (lv_at hl 0 rfl) ?_
      refine t_get (C := RX3) (T := TX3) (N := 13) X hT m0 g0 rfl rfl 6 (by decide) qw_166 inlX3 rfl dX3_isLineAgain_17 (fun v136428 hv136428 ov136428 => ?_)
      obtain ⟨z136429, rfl, rz136429⟩ := okV_i ov136428
      refine lv_if_eq (tgt := 27) hx hb dX3_isLineAgain_20 (by decide) (fun c136430 => ?_) (fun c136430 => ?_)
      · have w136431 := cv_eq (rfl : z136429.toInt = z136429.toInt) (by decide : (0 : Int32).toInt = 0) c136430
        refine lv_iconst (v := 0) hx hb dX3_isLineAgain_27 (by decide) ?_
        exact t_zret hQ X hT (by decide) (⟨rfl, (by decide)⟩) (Nat.le_of_ble_eq_true rfl) (Nat.le_of_ble_eq_true rfl) dX3_isLineAgain_28
      · have w136432 := cv_ne (rfl : z136429.toInt = z136429.toInt) (by decide : (0 : Int32).toInt = 0) c136430
        exact K23  _ _ _ (by omega) hT  (lv_sub hl [0, 1] rfl)
  refine lv_iload_n hx hb dX3_isLineAgain_0 rfl (lv_at hl 1 rfl) ?_
  refine lv_if_ne (tgt := 11) hx hb dX3_isLineAgain_1 (by decide) (fun c136433 => ?_) (fun c136433 => ?_)
  · have w136434 := cv_ne (rfl : p1.toInt = p1.toInt) (by decide : (0 : Int32).toInt = 0) c136433
    exact K11  _ _ _  hT  (lv_sub hl [0, 1] rfl)
  · have w136435 := cv_eq (rfl : p1.toInt = p1.toInt) (by decide : (0 : Int32).toInt = 0) c136433
    refine lv_aload_n hx hb dX3_isLineAgain_4 rfl (lv_at hl 0 rfl) ?_
    refine t_get (C := RX3) (T := TX3) (N := 13) X hT m0 g0 rfl rfl 5 (by decide) qw_165 inlX3 rfl dX3_isLineAgain_5 (fun v136436 hv136436 ov136436 => ?_)
    obtain ⟨z136437, rfl, rz136437⟩ := okV_i ov136436
    refine lv_if_ne (tgt := 23) hx hb dX3_isLineAgain_8 (by decide) (fun c136438 => ?_) (fun c136438 => ?_)
    · have w136439 := cv_ne (rfl : z136437.toInt = z136437.toInt) (by decide : (0 : Int32).toInt = 0) c136438
      exact K23  _ _ _ (by omega) hT  (lv_sub hl [0, 1] rfl)
    · have w136440 := cv_eq (rfl : z136437.toInt = z136437.toInt) (by decide : (0 : Int32).toInt = 0) c136438
      exact K11  _ _ _  hT  (lv_sub hl [0, 1] rfl)
set_option maxHeartbeats 4000000 in
set_option maxRecDepth 100000 in
theorem kt431_X3_isLineTooMany (l : Launch) (G : KG) (tag : Nat → Nat) (L : List Nat) (F : Nat → va_E) (ho : okT G ttC tag L F) (p0 : Nat) (p1 : Int32) (x0 : Nat) (x1 : Nat) (x2 : Nat) (x3 : Nat) (x4 : Nat) (x5 : Nat) (m0 : p0 ∈ L) (g0 : tag p0 = 25) (mx0 : x0 ∈ L) (gx0 : tag x0 = 24) (pf0 : fld F p0 0 = .ref x0) (mx1 : x1 ∈ L) (gx1 : tag x1 = 18) (pf1 : fld F p0 1 = .ref x1) (mx2 : x2 ∈ L) (gx2 : tag x2 = 19) (pf2 : fld F p0 2 = .ref x2) (mx3 : x3 ∈ L) (gx3 : tag x3 = 1) (pf3 : fld F x0 0 = .ref x3) (mx4 : x4 ∈ L) (gx4 : tag x4 = 14) (pf4 : fld F p0 10 = .ref x4) (mx5 : x5 ∈ L) (gx5 : tag x5 = 15) (pf5 : fld F p0 11 = .ref x5) : TMi l yX3_isLineTooMany cX3_isLineTooMany 2 (some .boolean) { frames := 0, cells := 0, slots := 0, locals := 0 } G ttC tag L F [.ref p0, .int p1] (fun r F1 => F1 = F ∧ (0 ≤ r.toInt ∧ r.toInt ≤ 1)) := by
  refine t_bodyi (y := yX3_isLineTooMany) (cd := cX3_isLineTooMany) (mL := 2) (rt := (some .boolean)) (rm := { frames := 0, cells := 0, slots := 0, locals := 0 }) (av := [.ref p0, .int p1]) (by decide) (Nat.le_of_ble_eq_true rfl) ho ?_
  intro p e s m args below meth c ls A Q hQ X hT hl
  have hx := X.1.1
  have hb := X.1.2.1
  have hl : lv_has ls 2 [(0, .ref p0), (1, .int p1)] := hl
  have rp1 := rg_all p1
  refine lv_iload_n hx hb dX3_isLineTooMany_0 rfl (lv_at hl 1 rfl) ?_
  by_cases c137049 : p1 = 2
  · have w137050 := cv_eq (rfl : p1.toInt = p1.toInt) (by decide : (2 : Int32).toInt = 2) c137049
    refine lv_tableIn (off := 43) (tgt := 44) hx hb dX3_isLineTooMany_1 (by rw [c137049]; decide) (by rw [c137049]; decide) (by rw [c137049]; decide) (by decide) ?_
    refine lv_aload_n hx hb dX3_isLineTooMany_44 rfl (lv_at hl 0 rfl) ?_
    refine t_get (C := RX3) (T := TX3) (N := 13) X hT m0 g0 rfl rfl 7 (by decide) qw_167 inlX3 rfl dX3_isLineTooMany_45 (fun v137051 hv137051 ov137051 => ?_)
    obtain ⟨z137052, rfl, rz137052⟩ := okV_i ov137051
    refine lv_bipush (v := 10) hx hb dX3_isLineTooMany_48 (by decide) ?_
    refine lv_icmp_lt (tgt := 57) hx hb dX3_isLineTooMany_50 (by decide) (fun c137053 => ?_) (fun c137053 => ?_)
    · have w137054 := cv_lt (rfl : z137052.toInt = z137052.toInt) (by decide : (10 : Int32).toInt = 10) c137053
      refine lv_iconst (v := 0) hx hb dX3_isLineTooMany_57 (by decide) ?_
      exact t_zret hQ X hT (by decide) (⟨rfl, (by decide)⟩) (Nat.le_of_ble_eq_true rfl) (Nat.le_of_ble_eq_true rfl) dX3_isLineTooMany_58
    · have w137055 := cv_nlt (rfl : z137052.toInt = z137052.toInt) (by decide : (10 : Int32).toInt = 10) c137053
      refine lv_iconst (v := 1) hx hb dX3_isLineTooMany_53 (by decide) ?_
      refine lv_goto (tgt := 58) hx hb dX3_isLineTooMany_54 (by decide) ?_
      exact t_zret hQ X hT (by decide) (⟨rfl, (by decide)⟩) (Nat.le_of_ble_eq_true rfl) (Nat.le_of_ble_eq_true rfl) dX3_isLineTooMany_58
  have w137056 := cv_ne (rfl : p1.toInt = p1.toInt) (by decide : (2 : Int32).toInt = 2) c137049
  by_cases c137057 : p1 = 3
  · have w137058 := cv_eq (rfl : p1.toInt = p1.toInt) (by decide : (3 : Int32).toInt = 3) c137057
    refine lv_tableIn (off := 58) (tgt := 59) hx hb dX3_isLineTooMany_1 (by rw [c137057]; decide) (by rw [c137057]; decide) (by rw [c137057]; decide) (by decide) ?_
    refine lv_aload_n hx hb dX3_isLineTooMany_59 rfl (lv_at hl 0 rfl) ?_
    refine t_get (C := RX3) (T := TX3) (N := 13) X hT m0 g0 rfl rfl 1 (by decide) qw_161 inlX3 rfl dX3_isLineTooMany_60 (fun v137059 hv137059 ov137059 => ?_)
    obtain rfl : v137059 = .ref x1 := hv137059.symm.trans pf1
    refine t_get (C := RX1) (T := TX1) (N := 20) X hT mx1 gx1 rfl rfl 8 (by decide) qw_171 inlX1 rfl dX3_isLineTooMany_63 (fun v137060 hv137060 ov137060 => ?_)
    obtain ⟨z137061, rfl, rz137061⟩ := okV_i ov137060
    refine lv_iconst (v := 4) hx hb dX3_isLineTooMany_66 (by decide) ?_
    refine lv_icmp_lt (tgt := 74) hx hb dX3_isLineTooMany_67 (by decide) (fun c137062 => ?_) (fun c137062 => ?_)
    · have w137063 := cv_lt (rfl : z137061.toInt = z137061.toInt) (by decide : (4 : Int32).toInt = 4) c137062
      refine lv_iconst (v := 0) hx hb dX3_isLineTooMany_74 (by decide) ?_
      exact t_zret hQ X hT (by decide) (⟨rfl, (by decide)⟩) (Nat.le_of_ble_eq_true rfl) (Nat.le_of_ble_eq_true rfl) dX3_isLineTooMany_75
    · have w137064 := cv_nlt (rfl : z137061.toInt = z137061.toInt) (by decide : (4 : Int32).toInt = 4) c137062
      refine lv_iconst (v := 1) hx hb dX3_isLineTooMany_70 (by decide) ?_
      refine lv_goto (tgt := 75) hx hb dX3_isLineTooMany_71 (by decide) ?_
      exact t_zret hQ X hT (by decide) (⟨rfl, (by decide)⟩) (Nat.le_of_ble_eq_true rfl) (Nat.le_of_ble_eq_true rfl) dX3_isLineTooMany_75
  have w137065 := cv_ne (rfl : p1.toInt = p1.toInt) (by decide : (3 : Int32).toInt = 3) c137057
  by_cases c137066 : p1 = 4
  · have w137067 := cv_eq (rfl : p1.toInt = p1.toInt) (by decide : (4 : Int32).toInt = 4) c137066
    refine lv_tableIn (off := 75) (tgt := 76) hx hb dX3_isLineTooMany_1 (by rw [c137066]; decide) (by rw [c137066]; decide) (by rw [c137066]; decide) (by decide) ?_
    refine lv_aload_n hx hb dX3_isLineTooMany_76 rfl (lv_at hl 0 rfl) ?_
    refine t_get (C := RX3) (T := TX3) (N := 13) X hT m0 g0 rfl rfl 1 (by decide) qw_161 inlX3 rfl dX3_isLineTooMany_77 (fun v137068 hv137068 ov137068 => ?_)
    obtain rfl : v137068 = .ref x1 := hv137068.symm.trans pf1
    refine t_get (C := RX1) (T := TX1) (N := 20) X hT mx1 gx1 rfl rfl 10 (by decide) qw_172 inlX1 rfl dX3_isLineTooMany_80 (fun v137069 hv137069 ov137069 => ?_)
    obtain ⟨z137070, rfl, rz137070⟩ := okV_i ov137069
    refine lv_iconst (v := 4) hx hb dX3_isLineTooMany_83 (by decide) ?_
    refine lv_icmp_lt (tgt := 91) hx hb dX3_isLineTooMany_84 (by decide) (fun c137071 => ?_) (fun c137071 => ?_)
    · have w137072 := cv_lt (rfl : z137070.toInt = z137070.toInt) (by decide : (4 : Int32).toInt = 4) c137071
      refine lv_iconst (v := 0) hx hb dX3_isLineTooMany_91 (by decide) ?_
      exact t_zret hQ X hT (by decide) (⟨rfl, (by decide)⟩) (Nat.le_of_ble_eq_true rfl) (Nat.le_of_ble_eq_true rfl) dX3_isLineTooMany_92
    · have w137073 := cv_nlt (rfl : z137070.toInt = z137070.toInt) (by decide : (4 : Int32).toInt = 4) c137071
      refine lv_iconst (v := 1) hx hb dX3_isLineTooMany_87 (by decide) ?_
      refine lv_goto (tgt := 92) hx hb dX3_isLineTooMany_88 (by decide) ?_
      exact t_zret hQ X hT (by decide) (⟨rfl, (by decide)⟩) (Nat.le_of_ble_eq_true rfl) (Nat.le_of_ble_eq_true rfl) dX3_isLineTooMany_92
  have w137074 := cv_ne (rfl : p1.toInt = p1.toInt) (by decide : (4 : Int32).toInt = 4) c137066
  by_cases c137075 : p1 = 5
  · have w137076 := cv_eq (rfl : p1.toInt = p1.toInt) (by decide : (5 : Int32).toInt = 5) c137075
    refine lv_tableIn (off := 143) (tgt := 144) hx hb dX3_isLineTooMany_1 (by rw [c137075]; decide) (by rw [c137075]; decide) (by rw [c137075]; decide) (by decide) ?_
    refine lv_iconst (v := 0) hx hb dX3_isLineTooMany_144 (by decide) ?_
    exact t_zret hQ X hT (by decide) (⟨rfl, (by decide)⟩) (Nat.le_of_ble_eq_true rfl) (Nat.le_of_ble_eq_true rfl) dX3_isLineTooMany_145
  have w137077 := cv_ne (rfl : p1.toInt = p1.toInt) (by decide : (5 : Int32).toInt = 5) c137075
  by_cases c137078 : p1 = 6
  · have w137079 := cv_eq (rfl : p1.toInt = p1.toInt) (by decide : (6 : Int32).toInt = 6) c137078
    refine lv_tableIn (off := 92) (tgt := 93) hx hb dX3_isLineTooMany_1 (by rw [c137078]; decide) (by rw [c137078]; decide) (by rw [c137078]; decide) (by decide) ?_
    refine lv_aload_n hx hb dX3_isLineTooMany_93 rfl (lv_at hl 0 rfl) ?_
    refine t_get (C := RX3) (T := TX3) (N := 13) X hT m0 g0 rfl rfl 1 (by decide) qw_161 inlX3 rfl dX3_isLineTooMany_94 (fun v137080 hv137080 ov137080 => ?_)
    obtain rfl : v137080 = .ref x1 := hv137080.symm.trans pf1
    refine t_get (C := RX1) (T := TX1) (N := 20) X hT mx1 gx1 rfl rfl 14 (by decide) qw_303 inlX1 rfl dX3_isLineTooMany_97 (fun v137081 hv137081 ov137081 => ?_)
    obtain ⟨z137082, rfl, rz137082⟩ := okV_i ov137081
    refine lv_bipush (v := 6) hx hb dX3_isLineTooMany_100 (by decide) ?_
    refine lv_icmp_lt (tgt := 109) hx hb dX3_isLineTooMany_102 (by decide) (fun c137083 => ?_) (fun c137083 => ?_)
    · have w137084 := cv_lt (rfl : z137082.toInt = z137082.toInt) (by decide : (6 : Int32).toInt = 6) c137083
      refine lv_iconst (v := 0) hx hb dX3_isLineTooMany_109 (by decide) ?_
      exact t_zret hQ X hT (by decide) (⟨rfl, (by decide)⟩) (Nat.le_of_ble_eq_true rfl) (Nat.le_of_ble_eq_true rfl) dX3_isLineTooMany_110
    · have w137085 := cv_nlt (rfl : z137082.toInt = z137082.toInt) (by decide : (6 : Int32).toInt = 6) c137083
      refine lv_iconst (v := 1) hx hb dX3_isLineTooMany_105 (by decide) ?_
      refine lv_goto (tgt := 110) hx hb dX3_isLineTooMany_106 (by decide) ?_
      exact t_zret hQ X hT (by decide) (⟨rfl, (by decide)⟩) (Nat.le_of_ble_eq_true rfl) (Nat.le_of_ble_eq_true rfl) dX3_isLineTooMany_110
  have w137086 := cv_ne (rfl : p1.toInt = p1.toInt) (by decide : (6 : Int32).toInt = 6) c137078
  by_cases c137087 : p1 = 7
  · have w137088 := cv_eq (rfl : p1.toInt = p1.toInt) (by decide : (7 : Int32).toInt = 7) c137087
    refine lv_tableIn (off := 110) (tgt := 111) hx hb dX3_isLineTooMany_1 (by rw [c137087]; decide) (by rw [c137087]; decide) (by rw [c137087]; decide) (by decide) ?_
    refine lv_aload_n hx hb dX3_isLineTooMany_111 rfl (lv_at hl 0 rfl) ?_
    refine t_get (C := RX3) (T := TX3) (N := 13) X hT m0 g0 rfl rfl 1 (by decide) qw_161 inlX3 rfl dX3_isLineTooMany_112 (fun v137089 hv137089 ov137089 => ?_)
    obtain rfl : v137089 = .ref x1 := hv137089.symm.trans pf1
    refine t_get (C := RX1) (T := TX1) (N := 20) X hT mx1 gx1 rfl rfl 16 (by decide) qw_304 inlX1 rfl dX3_isLineTooMany_115 (fun v137090 hv137090 ov137090 => ?_)
    obtain ⟨z137091, rfl, rz137091⟩ := okV_i ov137090
    refine lv_bipush (v := 6) hx hb dX3_isLineTooMany_118 (by decide) ?_
    refine lv_icmp_lt (tgt := 127) hx hb dX3_isLineTooMany_120 (by decide) (fun c137092 => ?_) (fun c137092 => ?_)
    · have w137093 := cv_lt (rfl : z137091.toInt = z137091.toInt) (by decide : (6 : Int32).toInt = 6) c137092
      refine lv_iconst (v := 0) hx hb dX3_isLineTooMany_127 (by decide) ?_
      exact t_zret hQ X hT (by decide) (⟨rfl, (by decide)⟩) (Nat.le_of_ble_eq_true rfl) (Nat.le_of_ble_eq_true rfl) dX3_isLineTooMany_128
    · have w137094 := cv_nlt (rfl : z137091.toInt = z137091.toInt) (by decide : (6 : Int32).toInt = 6) c137092
      refine lv_iconst (v := 1) hx hb dX3_isLineTooMany_123 (by decide) ?_
      refine lv_goto (tgt := 128) hx hb dX3_isLineTooMany_124 (by decide) ?_
      exact t_zret hQ X hT (by decide) (⟨rfl, (by decide)⟩) (Nat.le_of_ble_eq_true rfl) (Nat.le_of_ble_eq_true rfl) dX3_isLineTooMany_128
  have w137095 := cv_ne (rfl : p1.toInt = p1.toInt) (by decide : (7 : Int32).toInt = 7) c137087
  by_cases c137096 : p1 = 8
  · have w137097 := cv_eq (rfl : p1.toInt = p1.toInt) (by decide : (8 : Int32).toInt = 8) c137096
    refine lv_tableIn (off := 128) (tgt := 129) hx hb dX3_isLineTooMany_1 (by rw [c137096]; decide) (by rw [c137096]; decide) (by rw [c137096]; decide) (by decide) ?_
    refine lv_aload_n hx hb dX3_isLineTooMany_129 rfl (lv_at hl 0 rfl) ?_
    refine t_get (C := RX3) (T := TX3) (N := 13) X hT m0 g0 rfl rfl 8 (by decide) qw_168 inlX3 rfl dX3_isLineTooMany_130 (fun v137098 hv137098 ov137098 => ?_)
    obtain ⟨z137099, rfl, rz137099⟩ := okV_i ov137098
    refine lv_bipush (v := 8) hx hb dX3_isLineTooMany_133 (by decide) ?_
    refine lv_icmp_lt (tgt := 142) hx hb dX3_isLineTooMany_135 (by decide) (fun c137100 => ?_) (fun c137100 => ?_)
    · have w137101 := cv_lt (rfl : z137099.toInt = z137099.toInt) (by decide : (8 : Int32).toInt = 8) c137100
      refine lv_iconst (v := 0) hx hb dX3_isLineTooMany_142 (by decide) ?_
      exact t_zret hQ X hT (by decide) (⟨rfl, (by decide)⟩) (Nat.le_of_ble_eq_true rfl) (Nat.le_of_ble_eq_true rfl) dX3_isLineTooMany_143
    · have w137102 := cv_nlt (rfl : z137099.toInt = z137099.toInt) (by decide : (8 : Int32).toInt = 8) c137100
      refine lv_iconst (v := 1) hx hb dX3_isLineTooMany_138 (by decide) ?_
      refine lv_goto (tgt := 143) hx hb dX3_isLineTooMany_139 (by decide) ?_
      exact t_zret hQ X hT (by decide) (⟨rfl, (by decide)⟩) (Nat.le_of_ble_eq_true rfl) (Nat.le_of_ble_eq_true rfl) dX3_isLineTooMany_143
  have w137103 := cv_ne (rfl : p1.toInt = p1.toInt) (by decide : (8 : Int32).toInt = 8) c137096
  refine lv_tableOut (tgt := 144) hx hb dX3_isLineTooMany_1 (by omega) (by decide) ?_
  refine lv_iconst (v := 0) hx hb dX3_isLineTooMany_144 (by decide) ?_
  exact t_zret hQ X hT (by decide) (⟨rfl, (by decide)⟩) (Nat.le_of_ble_eq_true rfl) (Nat.le_of_ble_eq_true rfl) dX3_isLineTooMany_145
set_option maxHeartbeats 4000000 in
set_option maxRecDepth 100000 in
theorem kt432_X3_fail (l : Launch) (G : KG) (tag : Nat → Nat) (L : List Nat) (Fo : Nat → va_E) (ho : okT G ttC tag L Fo) (p0 : Nat) (p1 : Int32) (p2 : Int32) (m0 : p0 ∈ L) (g0 : tag p0 = 25) (h1 : 1 ≤ p1.toInt ∧ p1.toInt ≤ 7) : TMv l yX3_fail cX3_fail 3 { frames := 0, cells := 0, slots := 0, locals := 0 } G ttC tag L Fo [.ref p0, .int p1, .int p2] (fun F1 => ((∀ b j : Nat, (tag b ≠ 25 ∨ j ≠ 3) → (tag b ≠ 25 ∨ j ≠ 4) → fld F1 b j = fld Fo b j) ∧ EF tag F1 Fo) ∧ (∃ z : Int32, fld F1 p0 3 = .int z ∧ 1 ≤ z.toInt ∧ z.toInt ≤ 7)) := by
  refine t_bodyv (y := yX3_fail) (cd := cX3_fail) (mL := 3) (rm := { frames := 0, cells := 0, slots := 0, locals := 0 }) (av := [.ref p0, .int p1, .int p2]) (by decide) (Nat.le_of_ble_eq_true rfl) ho ?_
  intro p e s m args below meth c ls A Q hQ X hT hl
  have hx := X.1.1
  have hb := X.1.2.1
  have hl : lv_has ls 3 [(0, .ref p0), (1, .int p1), (2, .int p2)] := hl
  have rp2 := rg_all p2
  obtain ⟨F, hFo⟩ : ∃ F : Nat → va_E, F = Fo := ⟨_, rfl⟩
  rw [← hFo] at hT
  have hfr : (∀ b j : Nat, (tag b ≠ 25 ∨ j ≠ 3) → (tag b ≠ 25 ∨ j ≠ 4) → fld F b j = fld Fo b j) ∧ EF tag F Fo := by
    rw [hFo]
    exact ⟨by intros; rfl, fun _ _ _ => rfl⟩
  refine lv_aload_n hx hb dX3_fail_0 rfl (lv_at hl 0 rfl) ?_
  refine t_get (C := RX3) (T := TX3) (N := 13) X hT m0 g0 rfl rfl 3 (by decide) qw_163 inlX3 rfl dX3_fail_1 (fun v137197 hv137197 ov137197 => ?_)
  obtain ⟨z137198, rfl, rz137198⟩ := okV_i ov137197
  refine lv_if_ne (tgt := 17) hx hb dX3_fail_4 (by decide) (fun c137199 => ?_) (fun c137199 => ?_)
  · have w137200 := cv_ne (rfl : z137198.toInt = z137198.toInt) (by decide : (0 : Int32).toInt = 0) c137199
    exact t_vret hQ X hT ⟨hfr, ⟨_, hv137197, (by omega), (by omega)⟩⟩ (Nat.le_of_ble_eq_true rfl) (Nat.le_of_ble_eq_true rfl) dX3_fail_17
  · have w137201 := cv_eq (rfl : z137198.toInt = z137198.toInt) (by decide : (0 : Int32).toInt = 0) c137199
    refine lv_aload_n hx hb dX3_fail_7 rfl (lv_at hl 0 rfl) ?_
    refine lv_iload_n hx hb dX3_fail_8 rfl (lv_at hl 1 rfl) ?_
    refine t_put (C := RX3) (T := TX3) (N := 13) (v := .int p1) X hT m0 g0 rfl tyX3 tyX3_ok nmX3 rfl 3 (by decide) qw_163 inlX3 rfl (by first | rfl | decide) (by first | rfl | decide) rfl (⟨_, rfl, (show 0 ≤ (p1 : Int32).toInt from (by omega)), (show (p1 : Int32).toInt ≤ 7 from (by omega))⟩) dX3_fail_9 (fun F H locs hT v137202 h1v137202 h2v137202 => ?_)
    have hfr : (∀ b j : Nat, (tag b ≠ 25 ∨ j ≠ 3) → (tag b ≠ 25 ∨ j ≠ 4) → fld F b j = fld Fo b j) ∧ EF tag F Fo := ⟨fun b j n25_3 n25_4 => (h1v137202 b j (fr_ne g0 n25_3)).trans (hfr.1 b j n25_3 n25_4), fun b j hb => (h2v137202 b j).trans (hfr.2 b j hb)⟩
    refine lv_aload_n hx hb dX3_fail_12 rfl (lv_at hl 0 rfl) ?_
    refine lv_iload_n hx hb dX3_fail_13 rfl (lv_at hl 2 rfl) ?_
    refine t_put (C := RX3) (T := TX3) (N := 13) (v := .int p2) X hT m0 g0 rfl tyX3 tyX3_ok nmX3 rfl 4 (by decide) qw_164 inlX3 rfl (by first | rfl | decide) (by first | rfl | decide) rfl (⟨_, rfl, (show (-2147483648) ≤ (p2 : Int32).toInt from (by omega)), (show (p2 : Int32).toInt ≤ 2147483647 from (by omega))⟩) dX3_fail_14 (fun F H locs hT v137203 h1v137203 h2v137203 => ?_)
    have v137202 := (h1v137203 _ _ (Or.inr (by decide))).trans v137202
    have hfr : (∀ b j : Nat, (tag b ≠ 25 ∨ j ≠ 3) → (tag b ≠ 25 ∨ j ≠ 4) → fld F b j = fld Fo b j) ∧ EF tag F Fo := ⟨fun b j n25_3 n25_4 => (h1v137203 b j (fr_ne g0 n25_4)).trans (hfr.1 b j n25_3 n25_4), fun b j hb => (h2v137203 b j).trans (hfr.2 b j hb)⟩
    exact t_vret hQ X hT ⟨hfr, ⟨_, v137202, (by omega), (by omega)⟩⟩ (Nat.le_of_ble_eq_true rfl) (Nat.le_of_ble_eq_true rfl) dX3_fail_17
set_option maxHeartbeats 4000000 in
set_option maxRecDepth 100000 in
theorem kt433_X3_checkLine (l : Launch) (G : KG) (tag : Nat → Nat) (L : List Nat) (Fo : Nat → va_E) (ho : okT G ttC tag L Fo) (p0 : Nat) (p1 : Int32) (x0 : Nat) (x1 : Nat) (x2 : Nat) (x3 : Nat) (x4 : Nat) (x5 : Nat) (m0 : p0 ∈ L) (g0 : tag p0 = 25) (mx0 : x0 ∈ L) (gx0 : tag x0 = 24) (pf0 : fld Fo p0 0 = .ref x0) (mx1 : x1 ∈ L) (gx1 : tag x1 = 18) (pf1 : fld Fo p0 1 = .ref x1) (mx2 : x2 ∈ L) (gx2 : tag x2 = 19) (pf2 : fld Fo p0 2 = .ref x2) (mx3 : x3 ∈ L) (gx3 : tag x3 = 1) (pf3 : fld Fo x0 0 = .ref x3) (mx4 : x4 ∈ L) (gx4 : tag x4 = 14) (pf4 : fld Fo p0 10 = .ref x4) (mx5 : x5 ∈ L) (gx5 : tag x5 = 15) (pf5 : fld Fo p0 11 = .ref x5) : TMv l yX3_checkLine cX3_checkLine 2 { frames := 1, cells := 0, slots := 0, locals := 22 } G ttC tag L Fo [.ref p0, .int p1] (fun F1 => ((∀ b j : Nat, (tag b ≠ 25 ∨ j ≠ 3) → (tag b ≠ 25 ∨ j ≠ 4) → fld F1 b j = fld Fo b j) ∧ EF tag F1 Fo)) := by
  refine t_bodyv (y := yX3_checkLine) (cd := cX3_checkLine) (mL := 2) (rm := { frames := 1, cells := 0, slots := 0, locals := 22 }) (av := [.ref p0, .int p1]) (by decide) (Nat.le_of_ble_eq_true rfl) ho ?_
  intro p e s m args below meth c ls A Q hQ X hT hl
  have hx := X.1.1
  have hb := X.1.2.1
  have hl : lv_has ls 2 [(0, .ref p0), (1, .int p1)] := hl
  have rp1 := rg_all p1
  obtain ⟨F, hFo⟩ : ∃ F : Nat → va_E, F = Fo := ⟨_, rfl⟩
  rw [← hFo] at hT pf0 pf1 pf2 pf3 pf4 pf5
  have hfr : (∀ b j : Nat, (tag b ≠ 25 ∨ j ≠ 3) → (tag b ≠ 25 ∨ j ≠ 4) → fld F b j = fld Fo b j) ∧ EF tag F Fo := by
    rw [hFo]
    exact ⟨by intros; rfl, fun _ _ _ => rfl⟩
  refine lv_aload_n hx hb dX3_checkLine_0 rfl (lv_at hl 0 rfl) ?_
  refine lv_iload_n hx hb dX3_checkLine_1 rfl (lv_at hl 1 rfl) ?_
  refine t_cVi (n := 1) (C := RX3) (T := TX3) (N := 13) (As := [.int p1]) (rest := []) X hT (kt430_X3_isLineAgain l G tag L F hT.2.2.2 p0 p1 m0 g0) m0 g0 rfl rfl qw_295 qw_296 qw_297 qw_28 qw_298 ⟨rfl, by decide +kernel, by decide +kernel, by decide +kernel⟩ ⟨Nat.le_of_ble_eq_true rfl, Nat.le_of_ble_eq_true rfl⟩ hl rfl rfl (Nat.le_of_ble_eq_true rfl) dX3_checkLine_2 ⟨Nat.le_of_ble_eq_true rfl, Nat.le_of_ble_eq_true rfl⟩ (fun z137713 F9 H locs hT hz137713 => ?_)
  obtain ⟨fz137713, hz137713⟩ := hz137713
  rw [fz137713] at hT
  refine lv_if_eq (tgt := 23) hx hb dX3_checkLine_5 (by decide) (fun c137714 => ?_) (fun c137714 => ?_)
  · have w137715 := cv_eq (rfl : z137713.toInt = z137713.toInt) (by decide : (0 : Int32).toInt = 0) c137714
    refine lv_aload_n hx hb dX3_checkLine_23 rfl (lv_at hl 0 rfl) ?_
    refine lv_iload_n hx hb dX3_checkLine_24 rfl (lv_at hl 1 rfl) ?_
    refine t_cVi (n := 1) (C := RX3) (T := TX3) (N := 13) (As := [.int p1]) (rest := []) X hT (kt431_X3_isLineTooMany l G tag L F hT.2.2.2 p0 p1 x0 x1 x2 x3 x4 x5 m0 g0 mx0 gx0 pf0 mx1 gx1 pf1 mx2 gx2 pf2 mx3 gx3 pf3 mx4 gx4 pf4 mx5 gx5 pf5) m0 g0 rfl rfl qw_299 qw_300 qw_301 qw_28 qw_302 ⟨rfl, by decide +kernel, by decide +kernel, by decide +kernel⟩ ⟨Nat.le_of_ble_eq_true rfl, Nat.le_of_ble_eq_true rfl⟩ hl rfl rfl (Nat.le_of_ble_eq_true rfl) dX3_checkLine_25 ⟨Nat.le_of_ble_eq_true rfl, Nat.le_of_ble_eq_true rfl⟩ (fun z137716 F9 H locs hT hz137716 => ?_)
    obtain ⟨fz137716, hz137716⟩ := hz137716
    rw [fz137716] at hT
    refine lv_if_eq (tgt := 46) hx hb dX3_checkLine_28 (by decide) (fun c137717 => ?_) (fun c137717 => ?_)
    · have w137718 := cv_eq (rfl : z137716.toInt = z137716.toInt) (by decide : (0 : Int32).toInt = 0) c137717
      refine lv_iload_n hx hb dX3_checkLine_46 rfl (lv_at hl 1 rfl) ?_
      refine lv_if_eq (tgt := 57) hx hb dX3_checkLine_47 (by decide) (fun c137719 => ?_) (fun c137719 => ?_)
      · have w137720 := cv_eq (rfl : p1.toInt = p1.toInt) (by decide : (0 : Int32).toInt = 0) c137719
        refine lv_iload_n hx hb dX3_checkLine_57 rfl (lv_at hl 1 rfl) ?_
        refine lv_iconst (v := 2) hx hb dX3_checkLine_58 (by decide) ?_
        refine lv_icmp_ne (tgt := 85) hx hb dX3_checkLine_59 (by decide) (fun c137721 => ?_) (fun c137721 => ?_)
        · have w137722 := cv_ne (rfl : p1.toInt = p1.toInt) (by decide : (2 : Int32).toInt = 2) c137721
          exact t_vret hQ X hT hfr (Nat.le_of_ble_eq_true rfl) (Nat.le_of_ble_eq_true rfl) dX3_checkLine_85
        · have w137723 := cv_eq (rfl : p1.toInt = p1.toInt) (by decide : (2 : Int32).toInt = 2) c137721
          exfalso
          omega
      · have w137724 := cv_ne (rfl : p1.toInt = p1.toInt) (by decide : (0 : Int32).toInt = 0) c137719
        refine lv_aload_n hx hb dX3_checkLine_50 rfl (lv_at hl 0 rfl) ?_
        refine t_get (C := RX3) (T := TX3) (N := 13) X hT m0 g0 rfl rfl 5 (by decide) qw_165 inlX3 rfl dX3_checkLine_51 (fun v137725 hv137725 ov137725 => ?_)
        obtain ⟨z137726, rfl, rz137726⟩ := okV_i ov137725
        refine lv_if_eq (tgt := 72) hx hb dX3_checkLine_54 (by decide) (fun c137727 => ?_) (fun c137727 => ?_)
        · have w137728 := cv_eq (rfl : z137726.toInt = z137726.toInt) (by decide : (0 : Int32).toInt = 0) c137727
          refine lv_aload_n hx hb dX3_checkLine_72 rfl (lv_at hl 0 rfl) ?_
          refine lv_bipush (v := 6) hx hb dX3_checkLine_73 (by decide) ?_
          refine lv_aload_n hx hb dX3_checkLine_75 rfl (lv_at hl 0 rfl) ?_
          refine t_get (C := RX3) (T := TX3) (N := 13) X hT m0 g0 rfl rfl 0 (by decide) qw_73 inlX3 rfl dX3_checkLine_76 (fun v137729 hv137729 ov137729 => ?_)
          obtain rfl : v137729 = .ref x0 := hv137729.symm.trans pf0
          refine t_get (C := RX8) (T := TX8) (N := 8) X hT mx0 gx0 rfl rfl 4 (by decide) qw_227 inlX8 rfl dX3_checkLine_79 (fun v137730 hv137730 ov137730 => ?_)
          obtain ⟨z137731, rfl, rz137731⟩ := okV_i ov137730
          refine t_cVv (n := 2) (C := RX3) (T := TX3) (N := 13) (As := [.int 6, .int z137731]) (rest := []) X hT (kt432_X3_fail l G tag L F hT.2.2.2 p0 6 z137731 m0 g0 (by decide)) m0 g0 rfl rfl qw_287 qw_288 qw_289 qw_28 qw_290 ⟨rfl, by decide +kernel, by decide +kernel, by decide +kernel⟩ ⟨Nat.le_of_ble_eq_true rfl, Nat.le_of_ble_eq_true rfl⟩ hl rfl rfl (Nat.le_of_ble_eq_true rfl) dX3_checkLine_82 ⟨Nat.le_of_ble_eq_true rfl, Nat.le_of_ble_eq_true rfl⟩ (fun F H locs hT hz137732 => ?_)
          obtain ⟨yz137732, xz137732_0⟩ := hz137732
          have pf0 := (yz137732.1 _ 0 (Or.inr (by decide)) (Or.inr (by decide))).trans pf0
          have pf1 := (yz137732.1 _ 1 (Or.inr (by decide)) (Or.inr (by decide))).trans pf1
          have pf2 := (yz137732.1 _ 2 (Or.inr (by decide)) (Or.inr (by decide))).trans pf2
          have pf3 := (yz137732.1 _ 0 (Or.inr (by decide)) (Or.inr (by decide))).trans pf3
          have pf4 := (yz137732.1 _ 10 (Or.inr (by decide)) (Or.inr (by decide))).trans pf4
          have pf5 := (yz137732.1 _ 11 (Or.inr (by decide)) (Or.inr (by decide))).trans pf5
          have hv137725 := (yz137732.1 _ 5 (Or.inr (by decide)) (Or.inr (by decide))).trans hv137725
          have hv137730 := (yz137732.1 _ 4 (Or.inr (by decide)) (Or.inl (by rw [gx0]; decide))).trans hv137730
          have hfr : (∀ b j : Nat, (tag b ≠ 25 ∨ j ≠ 3) → (tag b ≠ 25 ∨ j ≠ 4) → fld F b j = fld Fo b j) ∧ EF tag F Fo := ⟨fun b j n25_3 n25_4 => (yz137732.1 b j n25_3 n25_4).trans (hfr.1 b j n25_3 n25_4), fun b j hb => (yz137732.2 b j hb).trans (hfr.2 b j hb)⟩
          obtain ⟨z137733, qz137733, rz137733⟩ := xz137732_0
          exact t_vret hQ X hT hfr (Nat.le_of_ble_eq_true rfl) (Nat.le_of_ble_eq_true rfl) dX3_checkLine_85
        · have w137734 := cv_ne (rfl : z137726.toInt = z137726.toInt) (by decide : (0 : Int32).toInt = 0) c137727
          refine lv_iload_n hx hb dX3_checkLine_57 rfl (lv_at hl 1 rfl) ?_
          refine lv_iconst (v := 2) hx hb dX3_checkLine_58 (by decide) ?_
          refine lv_icmp_ne (tgt := 85) hx hb dX3_checkLine_59 (by decide) (fun c137735 => ?_) (fun c137735 => ?_)
          · have w137736 := cv_ne (rfl : p1.toInt = p1.toInt) (by decide : (2 : Int32).toInt = 2) c137735
            exact t_vret hQ X hT hfr (Nat.le_of_ble_eq_true rfl) (Nat.le_of_ble_eq_true rfl) dX3_checkLine_85
          · have w137737 := cv_eq (rfl : p1.toInt = p1.toInt) (by decide : (2 : Int32).toInt = 2) c137735
            refine lv_aload_n hx hb dX3_checkLine_62 rfl (lv_at hl 0 rfl) ?_
            refine t_get (C := RX3) (T := TX3) (N := 13) X hT m0 g0 rfl rfl 1 (by decide) qw_161 inlX3 rfl dX3_checkLine_63 (fun v137738 hv137738 ov137738 => ?_)
            obtain rfl : v137738 = .ref x1 := hv137738.symm.trans pf1
            refine t_get (C := RX1) (T := TX1) (N := 20) X hT mx1 gx1 rfl rfl 10 (by decide) qw_172 inlX1 rfl dX3_checkLine_66 (fun v137739 hv137739 ov137739 => ?_)
            obtain ⟨z137740, rfl, rz137740⟩ := okV_i ov137739
            refine lv_if_le (tgt := 85) hx hb dX3_checkLine_69 (by decide) (fun c137741 => ?_) (fun c137741 => ?_)
            · have w137742 := cv_le (rfl : z137740.toInt = z137740.toInt) (by decide : (0 : Int32).toInt = 0) c137741
              exact t_vret hQ X hT hfr (Nat.le_of_ble_eq_true rfl) (Nat.le_of_ble_eq_true rfl) dX3_checkLine_85
            · have w137743 := cv_nle (rfl : z137740.toInt = z137740.toInt) (by decide : (0 : Int32).toInt = 0) c137741
              refine lv_aload_n hx hb dX3_checkLine_72 rfl (lv_at hl 0 rfl) ?_
              refine lv_bipush (v := 6) hx hb dX3_checkLine_73 (by decide) ?_
              refine lv_aload_n hx hb dX3_checkLine_75 rfl (lv_at hl 0 rfl) ?_
              refine t_get (C := RX3) (T := TX3) (N := 13) X hT m0 g0 rfl rfl 0 (by decide) qw_73 inlX3 rfl dX3_checkLine_76 (fun v137744 hv137744 ov137744 => ?_)
              obtain rfl : v137744 = .ref x0 := hv137744.symm.trans pf0
              refine t_get (C := RX8) (T := TX8) (N := 8) X hT mx0 gx0 rfl rfl 4 (by decide) qw_227 inlX8 rfl dX3_checkLine_79 (fun v137745 hv137745 ov137745 => ?_)
              obtain ⟨z137746, rfl, rz137746⟩ := okV_i ov137745
              refine t_cVv (n := 2) (C := RX3) (T := TX3) (N := 13) (As := [.int 6, .int z137746]) (rest := []) X hT (kt432_X3_fail l G tag L F hT.2.2.2 p0 6 z137746 m0 g0 (by decide)) m0 g0 rfl rfl qw_287 qw_288 qw_289 qw_28 qw_290 ⟨rfl, by decide +kernel, by decide +kernel, by decide +kernel⟩ ⟨Nat.le_of_ble_eq_true rfl, Nat.le_of_ble_eq_true rfl⟩ hl rfl rfl (Nat.le_of_ble_eq_true rfl) dX3_checkLine_82 ⟨Nat.le_of_ble_eq_true rfl, Nat.le_of_ble_eq_true rfl⟩ (fun F H locs hT hz137747 => ?_)
              obtain ⟨yz137747, xz137747_0⟩ := hz137747
              have pf0 := (yz137747.1 _ 0 (Or.inr (by decide)) (Or.inr (by decide))).trans pf0
              have pf1 := (yz137747.1 _ 1 (Or.inr (by decide)) (Or.inr (by decide))).trans pf1
              have pf2 := (yz137747.1 _ 2 (Or.inr (by decide)) (Or.inr (by decide))).trans pf2
              have pf3 := (yz137747.1 _ 0 (Or.inr (by decide)) (Or.inr (by decide))).trans pf3
              have pf4 := (yz137747.1 _ 10 (Or.inr (by decide)) (Or.inr (by decide))).trans pf4
              have pf5 := (yz137747.1 _ 11 (Or.inr (by decide)) (Or.inr (by decide))).trans pf5
              have hv137725 := (yz137747.1 _ 5 (Or.inr (by decide)) (Or.inr (by decide))).trans hv137725
              have hv137739 := (yz137747.1 _ 10 (Or.inr (by decide)) (Or.inr (by decide))).trans hv137739
              have hv137745 := (yz137747.1 _ 4 (Or.inr (by decide)) (Or.inl (by rw [gx0]; decide))).trans hv137745
              have hfr : (∀ b j : Nat, (tag b ≠ 25 ∨ j ≠ 3) → (tag b ≠ 25 ∨ j ≠ 4) → fld F b j = fld Fo b j) ∧ EF tag F Fo := ⟨fun b j n25_3 n25_4 => (yz137747.1 b j n25_3 n25_4).trans (hfr.1 b j n25_3 n25_4), fun b j hb => (yz137747.2 b j hb).trans (hfr.2 b j hb)⟩
              obtain ⟨z137748, qz137748, rz137748⟩ := xz137747_0
              exact t_vret hQ X hT hfr (Nat.le_of_ble_eq_true rfl) (Nat.le_of_ble_eq_true rfl) dX3_checkLine_85
    · have w137749 := cv_ne (rfl : z137716.toInt = z137716.toInt) (by decide : (0 : Int32).toInt = 0) c137717
      refine lv_aload_n hx hb dX3_checkLine_31 rfl (lv_at hl 0 rfl) ?_
      refine lv_iconst (v := 5) hx hb dX3_checkLine_32 (by decide) ?_
      refine lv_aload_n hx hb dX3_checkLine_33 rfl (lv_at hl 0 rfl) ?_
      refine t_get (C := RX3) (T := TX3) (N := 13) X hT m0 g0 rfl rfl 0 (by decide) qw_73 inlX3 rfl dX3_checkLine_34 (fun v137750 hv137750 ov137750 => ?_)
      obtain rfl : v137750 = .ref x0 := hv137750.symm.trans pf0
      refine t_get (C := RX8) (T := TX8) (N := 8) X hT mx0 gx0 rfl rfl 4 (by decide) qw_227 inlX8 rfl dX3_checkLine_37 (fun v137751 hv137751 ov137751 => ?_)
      obtain ⟨z137752, rfl, rz137752⟩ := okV_i ov137751
      refine t_cVv (n := 2) (C := RX3) (T := TX3) (N := 13) (As := [.int 5, .int z137752]) (rest := []) X hT (kt432_X3_fail l G tag L F hT.2.2.2 p0 5 z137752 m0 g0 (by decide)) m0 g0 rfl rfl qw_287 qw_288 qw_289 qw_28 qw_290 ⟨rfl, by decide +kernel, by decide +kernel, by decide +kernel⟩ ⟨Nat.le_of_ble_eq_true rfl, Nat.le_of_ble_eq_true rfl⟩ hl rfl rfl (Nat.le_of_ble_eq_true rfl) dX3_checkLine_40 ⟨Nat.le_of_ble_eq_true rfl, Nat.le_of_ble_eq_true rfl⟩ (fun F H locs hT hz137753 => ?_)
      obtain ⟨yz137753, xz137753_0⟩ := hz137753
      have pf0 := (yz137753.1 _ 0 (Or.inr (by decide)) (Or.inr (by decide))).trans pf0
      have pf1 := (yz137753.1 _ 1 (Or.inr (by decide)) (Or.inr (by decide))).trans pf1
      have pf2 := (yz137753.1 _ 2 (Or.inr (by decide)) (Or.inr (by decide))).trans pf2
      have pf3 := (yz137753.1 _ 0 (Or.inr (by decide)) (Or.inr (by decide))).trans pf3
      have pf4 := (yz137753.1 _ 10 (Or.inr (by decide)) (Or.inr (by decide))).trans pf4
      have pf5 := (yz137753.1 _ 11 (Or.inr (by decide)) (Or.inr (by decide))).trans pf5
      have hv137751 := (yz137753.1 _ 4 (Or.inr (by decide)) (Or.inl (by rw [gx0]; decide))).trans hv137751
      have hfr : (∀ b j : Nat, (tag b ≠ 25 ∨ j ≠ 3) → (tag b ≠ 25 ∨ j ≠ 4) → fld F b j = fld Fo b j) ∧ EF tag F Fo := ⟨fun b j n25_3 n25_4 => (yz137753.1 b j n25_3 n25_4).trans (hfr.1 b j n25_3 n25_4), fun b j hb => (yz137753.2 b j hb).trans (hfr.2 b j hb)⟩
      obtain ⟨z137754, qz137754, rz137754⟩ := xz137753_0
      refine lv_goto (tgt := 85) hx hb dX3_checkLine_43 (by decide) ?_
      exact t_vret hQ X hT hfr (Nat.le_of_ble_eq_true rfl) (Nat.le_of_ble_eq_true rfl) dX3_checkLine_85
  · have w137755 := cv_ne (rfl : z137713.toInt = z137713.toInt) (by decide : (0 : Int32).toInt = 0) c137714
    refine lv_aload_n hx hb dX3_checkLine_8 rfl (lv_at hl 0 rfl) ?_
    refine lv_iconst (v := 3) hx hb dX3_checkLine_9 (by decide) ?_
    refine lv_aload_n hx hb dX3_checkLine_10 rfl (lv_at hl 0 rfl) ?_
    refine t_get (C := RX3) (T := TX3) (N := 13) X hT m0 g0 rfl rfl 0 (by decide) qw_73 inlX3 rfl dX3_checkLine_11 (fun v137756 hv137756 ov137756 => ?_)
    obtain rfl : v137756 = .ref x0 := hv137756.symm.trans pf0
    refine t_get (C := RX8) (T := TX8) (N := 8) X hT mx0 gx0 rfl rfl 4 (by decide) qw_227 inlX8 rfl dX3_checkLine_14 (fun v137757 hv137757 ov137757 => ?_)
    obtain ⟨z137758, rfl, rz137758⟩ := okV_i ov137757
    refine t_cVv (n := 2) (C := RX3) (T := TX3) (N := 13) (As := [.int 3, .int z137758]) (rest := []) X hT (kt432_X3_fail l G tag L F hT.2.2.2 p0 3 z137758 m0 g0 (by decide)) m0 g0 rfl rfl qw_287 qw_288 qw_289 qw_28 qw_290 ⟨rfl, by decide +kernel, by decide +kernel, by decide +kernel⟩ ⟨Nat.le_of_ble_eq_true rfl, Nat.le_of_ble_eq_true rfl⟩ hl rfl rfl (Nat.le_of_ble_eq_true rfl) dX3_checkLine_17 ⟨Nat.le_of_ble_eq_true rfl, Nat.le_of_ble_eq_true rfl⟩ (fun F H locs hT hz137759 => ?_)
    obtain ⟨yz137759, xz137759_0⟩ := hz137759
    have pf0 := (yz137759.1 _ 0 (Or.inr (by decide)) (Or.inr (by decide))).trans pf0
    have pf1 := (yz137759.1 _ 1 (Or.inr (by decide)) (Or.inr (by decide))).trans pf1
    have pf2 := (yz137759.1 _ 2 (Or.inr (by decide)) (Or.inr (by decide))).trans pf2
    have pf3 := (yz137759.1 _ 0 (Or.inr (by decide)) (Or.inr (by decide))).trans pf3
    have pf4 := (yz137759.1 _ 10 (Or.inr (by decide)) (Or.inr (by decide))).trans pf4
    have pf5 := (yz137759.1 _ 11 (Or.inr (by decide)) (Or.inr (by decide))).trans pf5
    have hv137757 := (yz137759.1 _ 4 (Or.inr (by decide)) (Or.inl (by rw [gx0]; decide))).trans hv137757
    have hfr : (∀ b j : Nat, (tag b ≠ 25 ∨ j ≠ 3) → (tag b ≠ 25 ∨ j ≠ 4) → fld F b j = fld Fo b j) ∧ EF tag F Fo := ⟨fun b j n25_3 n25_4 => (yz137759.1 b j n25_3 n25_4).trans (hfr.1 b j n25_3 n25_4), fun b j hb => (yz137759.2 b j hb).trans (hfr.2 b j hb)⟩
    obtain ⟨z137760, qz137760, rz137760⟩ := xz137759_0
    refine lv_goto (tgt := 85) hx hb dX3_checkLine_20 (by decide) ?_
    exact t_vret hQ X hT hfr (Nat.le_of_ble_eq_true rfl) (Nat.le_of_ble_eq_true rfl) dX3_checkLine_85
