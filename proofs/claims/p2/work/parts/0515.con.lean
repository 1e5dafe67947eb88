set_option maxHeartbeats 4000000 in
set_option maxRecDepth 100000 in
theorem kt120_X11_light (l : Launch) (G : KG) (tag : Nat → Nat) (L : List Nat) (Fo : Nat → va_E) (ho : okT G ttC tag L Fo) (p0 : Nat) (p1 : Int32) (p2 : Int32) (m0 : p0 ∈ L) (g0 : tag p0 = 26) : TMi l yX11_light cX11_light 3 (some .int) { frames := 2, cells := 0, slots := 0, locals := 43 } G ttC tag L Fo [.ref p0, .int p1, .int p2] (fun r F1 => ((-2147483648) ≤ r.toInt ∧ r.toInt ≤ 2147483647) ∧ ((∀ b j : Nat, (tag b ≠ 26 ∨ j ≠ 13) → fld F1 b j = fld Fo b j) ∧ EF tag F1 Fo)) := by
  refine t_bodyi (y := yX11_light) (cd := cX11_light) (mL := 3) (rt := (some .int)) (rm := { frames := 2, cells := 0, slots := 0, locals := 43 }) (av := [.ref p0, .int p1, .int p2]) (by decide) (Nat.le_of_ble_eq_true rfl) ho ?_
  intro p e s m args below meth c ls A Q hQ X hT hl
  have hx := X.1.1
  have hb := X.1.2.1
  have hl : lv_has ls 3 [(0, .ref p0), (1, .int p1), (2, .int p2)] := hl
  have rp1 := rg_all p1
  have rp2 := rg_all p2
  obtain ⟨F, hFo⟩ : ∃ F : Nat → va_E, F = Fo := ⟨_, rfl⟩
  rw [← hFo] at hT
  have hfr : (∀ b j : Nat, (tag b ≠ 26 ∨ j ≠ 13) → fld F b j = fld Fo b j) ∧ EF tag F Fo := by
    rw [hFo]
    exact ⟨by intros; rfl, fun _ _ _ => rfl⟩
  refine lv_aload_n hx hb dX11_light_0 rfl (lv_at hl 0 rfl) ?_
  refine lv_iload_n hx hb dX11_light_1 rfl (lv_at hl 1 rfl) ?_
  refine lv_iload_n hx hb dX11_light_2 rfl (lv_at hl 2 rfl) ?_
  refine t_cVi (n := 2) (C := RX11) (T := TX11) (N := 16) (As := [.int p1, .int p2]) (rest := []) X hT (kt62_X11_isRoom l G tag L F hT.2.2.2 p0 p1 p2 m0 g0) m0 g0 rfl rfl qw_827 qw_828 qw_829 qw_2 qw_830 ⟨rfl, by decide +kernel, by decide +kernel, by decide +kernel⟩ ⟨Nat.le_of_ble_eq_true rfl, Nat.le_of_ble_eq_true rfl⟩ hl rfl rfl (Nat.le_of_ble_eq_true rfl) dX11_light_3 ⟨Nat.le_of_ble_eq_true rfl, Nat.le_of_ble_eq_true rfl⟩ (fun z42333 F9 H locs hT hz42333 => ?_)
  obtain ⟨fz42333, hz42333⟩ := hz42333
  rw [fz42333] at hT
  obtain ⟨hz42333, iz42333⟩ := hz42333
  refine lv_if_ne (tgt := 15) hx hb dX11_light_6 (by decide) (fun c42334 => ?_) (fun c42334 => ?_)
  · have w42335 := cv_ne (rfl : z42333.toInt = z42333.toInt) (by decide : (0 : Int32).toInt = 0) c42334
    have w42336 := (fun h => (iz42333 h).1) (by omega)
    have w42337 := (fun h => (iz42333 h).2) (by omega)
    refine lv_aload_n hx hb dX11_light_15 rfl (lv_at hl 0 rfl) ?_
    refine lv_iconst (v := 0) hx hb dX11_light_16 (by decide) ?_
    refine lv_bipush (v := 9) hx hb dX11_light_17 (by decide) ?_
    refine lv_iconst (v := 3) hx hb dX11_light_19 (by decide) ?_
    refine lv_aload_n hx hb dX11_light_20 rfl (lv_at hl 0 rfl) ?_
    refine t_get (C := RX11) (T := TX11) (N := 16) X hT m0 g0 rfl rfl 5 (by decide) qw_23 inlX11 rfl dX11_light_21 (fun v42338 hv42338 ov42338 => ?_)
    obtain ⟨b42339, rfl, mb42339, gb42339⟩ := okV_r ov42338
    have gb42339 : tag b42339 = 19 := tg_of gb42339
    refine t_get (C := RX7) (T := TX7) (N := 7) X hT mb42339 gb42339 rfl rfl 2 (by decide) qw_766 inlX7 rfl dX11_light_24 (fun v42340 hv42340 ov42340 => ?_)
    obtain ⟨b42341, rfl, mb42341, gb42341⟩ := okV_r ov42340
    have gb42341 : tag b42341 = 8 := tg_of gb42341
    refine lv_iload_n hx hb dX11_light_27 rfl (lv_at hl 1 rfl) ?_
    refine t_ild X hT mb42341 gb42341 rfl (by omega) dX11_light_28 (fun z42342 vz42342 rz42342 => ?_)
    have rz42342 : 0 ≤ z42342.toInt ∧ z42342.toInt ≤ 6 := rz42342
    refine lv_iload_n hx hb dX11_light_29 rfl (lv_at hl 2 rfl) ?_
    refine lv_isub hx hb dX11_light_30 ?_
    refine lv_topi (fun z42343 ez42343 => ?_)
    have hz42343 : z42343.toInt = z42342.toInt - p2.toInt := ar_sub ez42343 (rfl : z42342.toInt = z42342.toInt) (rfl : p2.toInt = p2.toInt) (by omega) (by omega)
    have rz42343 : (-6) ≤ z42343.toInt ∧ z42343.toInt ≤ 6 := by omega
    refine lv_imul hx hb dX11_light_31 ?_
    refine lv_topi (fun z42344 ez42344 => ?_)
    have hz42344 : z42344.toInt = 3 * z42343.toInt := ar_mul ez42344 (by decide : (3 : Int32).toInt = 3) (rfl : z42343.toInt = z42343.toInt) (by omega) (by omega)
    have rz42344 : (-18) ≤ z42344.toInt ∧ z42344.toInt ≤ 18 := by omega
    refine lv_isub hx hb dX11_light_32 ?_
    refine lv_topi (fun z42345 ez42345 => ?_)
    have hz42345 : z42345.toInt = 9 - z42344.toInt := ar_sub ez42345 (by decide : (9 : Int32).toInt = 9) (rfl : z42344.toInt = z42344.toInt) (by omega) (by omega)
    have rz42345 : (-9) ≤ z42345.toInt ∧ z42345.toInt ≤ 27 := by omega
    refine t_mmax X hl qw_848 qw_849 qw_850 qw_851 (Nat.le_of_ble_eq_true rfl) (Nat.le_of_ble_eq_true rfl) (Nat.le_of_ble_eq_true rfl) (Nat.le_of_ble_eq_true rfl) dX11_light_33 (fun z42346 ez42346 => ?_)
    have hz42346 := mmax_e ez42346 (by decide : (0 : Int32).toInt = 0) (rfl : z42345.toInt = z42345.toInt)
    refine t_cVi (n := 1) (C := RX11) (T := TX11) (N := 16) (As := [.int z42346]) (rest := []) X hT (kt56_X11_answer l G tag L F hT.2.2.2 p0 z42346 m0 g0) m0 g0 rfl rfl qw_463 qw_464 qw_465 qw_2 qw_466 ⟨rfl, by decide +kernel, by decide +kernel, by decide +kernel⟩ ⟨Nat.le_of_ble_eq_true rfl, Nat.le_of_ble_eq_true rfl⟩ hl rfl rfl (Nat.le_of_ble_eq_true rfl) dX11_light_36 ⟨Nat.le_of_ble_eq_true rfl, Nat.le_of_ble_eq_true rfl⟩ (fun z42347 F H locs hT hz42347 => ?_)
    obtain ⟨hz42347, yz42347⟩ := hz42347
    have hv42338 := (yz42347.1 _ 5 (Or.inr (by decide))).trans hv42338
    have hv42340 := (yz42347.1 _ 2 (Or.inr (by decide))).trans hv42340
    have hfr : (∀ b j : Nat, (tag b ≠ 26 ∨ j ≠ 13) → fld F b j = fld Fo b j) ∧ EF tag F Fo := ⟨fun b j n26_13 => (yz42347.1 b j n26_13).trans (hfr.1 b j n26_13), fun b j hb => (yz42347.2 b j hb).trans (hfr.2 b j hb)⟩
    exact t_iret hQ X hT (⟨rg_all _, hfr⟩) (Nat.le_of_ble_eq_true rfl) (Nat.le_of_ble_eq_true rfl) dX11_light_39
  · have w42348 := cv_eq (rfl : z42333.toInt = z42333.toInt) (by decide : (0 : Int32).toInt = 0) c42334
    refine lv_aload_n hx hb dX11_light_9 rfl (lv_at hl 0 rfl) ?_
    refine lv_iconst (v := 1) hx hb dX11_light_10 (by decide) ?_
    refine t_cVi (n := 1) (C := RX11) (T := TX11) (N := 16) (As := [.int 1]) (rest := []) X hT (kt63_X11_refuse l G tag L F hT.2.2.2 p0 1 m0 g0) m0 g0 rfl rfl qw_152 qw_153 qw_154 qw_2 qw_155 ⟨rfl, by decide +kernel, by decide +kernel, by decide +kernel⟩ ⟨Nat.le_of_ble_eq_true rfl, Nat.le_of_ble_eq_true rfl⟩ hl rfl rfl (Nat.le_of_ble_eq_true rfl) dX11_light_11 ⟨Nat.le_of_ble_eq_true rfl, Nat.le_of_ble_eq_true rfl⟩ (fun z42349 F H locs hT hz42349 => ?_)
    obtain ⟨hz42349, yz42349⟩ := hz42349
    have hfr : (∀ b j : Nat, (tag b ≠ 26 ∨ j ≠ 13) → fld F b j = fld Fo b j) ∧ EF tag F Fo := ⟨fun b j n26_13 => (yz42349.1 b j n26_13).trans (hfr.1 b j n26_13), fun b j hb => (yz42349.2 b j hb).trans (hfr.2 b j hb)⟩
    exact t_iret hQ X hT (⟨rg_all _, hfr⟩) (Nat.le_of_ble_eq_true rfl) (Nat.le_of_ble_eq_true rfl) dX11_light_14
set_option maxHeartbeats 4000000 in
set_option maxRecDepth 100000 in
theorem kt121_X11_lock (l : Launch) (G : KG) (tag : Nat → Nat) (L : List Nat) (Fo : Nat → va_E) (ho : okT G ttC tag L Fo) (p0 : Nat) (p1 : Int32) (p2 : Int32) (p3 : Int32) (m0 : p0 ∈ L) (g0 : tag p0 = 26) : TMi l yX11_lock cX11_lock 4 (some .boolean) { frames := 3, cells := 0, slots := 0, locals := 66 } G ttC tag L Fo [.ref p0, .int p1, .int p2, .int p3] (fun r F1 => (0 ≤ r.toInt ∧ r.toInt ≤ 1) ∧ ((∀ b j : Nat, (tag b ≠ 19 ∨ j ≠ 0) → (tag b ≠ 19 ∨ j ≠ 1) → (tag b ≠ 23 ∨ j ≠ 2) → (tag b ≠ 23 ∨ j ≠ 3) → (tag b ≠ 26 ∨ j ≠ 13) → fld F1 b j = fld Fo b j) ∧ EF tag F1 Fo)) := by
  refine t_bodyi (y := yX11_lock) (cd := cX11_lock) (mL := 4) (rt := (some .boolean)) (rm := { frames := 3, cells := 0, slots := 0, locals := 66 }) (av := [.ref p0, .int p1, .int p2, .int p3]) (by decide) (Nat.le_of_ble_eq_true rfl) ho ?_
  intro p e s m args below meth c ls A Q hQ X hT hl
  have hx := X.1.1
  have hb := X.1.2.1
  have hl : lv_has ls 4 [(0, .ref p0), (1, .int p1), (2, .int p2), (3, .int p3)] := hl
  have rp1 := rg_all p1
  have rp2 := rg_all p2
  have rp3 := rg_all p3
  obtain ⟨F, hFo⟩ : ∃ F : Nat → va_E, F = Fo := ⟨_, rfl⟩
  rw [← hFo] at hT
  have hfr : (∀ b j : Nat, (tag b ≠ 19 ∨ j ≠ 0) → (tag b ≠ 19 ∨ j ≠ 1) → (tag b ≠ 23 ∨ j ≠ 2) → (tag b ≠ 23 ∨ j ≠ 3) → (tag b ≠ 26 ∨ j ≠ 13) → fld F b j = fld Fo b j) ∧ EF tag F Fo := by
    rw [hFo]
    exact ⟨by intros; rfl, fun _ _ _ => rfl⟩
  have K25 : ∀  (F : Nat → va_E) (H : Heap) (locs : List Loc) (ls : Array Slot), (0 ≤ p1.toInt ∧ p1.toInt ≤ 3) → (1 ≤ p2.toInt ∧ p2.toInt ≤ 6) → TH G ttC A s tag L F H locs → ((∀ b j : Nat, (tag b ≠ 19 ∨ j ≠ 0) → (tag b ≠ 19 ∨ j ≠ 1) → (tag b ≠ 23 ∨ j ≠ 2) → (tag b ≠ 23 ∨ j ≠ 3) → (tag b ≠ 26 ∨ j ≠ 13) → fld F b j = fld Fo b j) ∧ EF tag F Fo) → lv_has ls 4 [(0, .ref p0), (1, .int p1), (2, .int p2), (3, .int p3)] → W p l e { frames := 3, cells := 0, slots := 0, locals := 66 } s m args below meth c H locs 0 0 Q (F0 m 25 ls []) := by
    intro F H locs ls r9s42669 r9s42670 hT hfr hl
    refine lv_aload_n hx hb dX11_lock_25 rfl (lv_at hl 0 rfl) ?_
    refine lv_iconst (v := 2) hx hb dX11_lock_26 (by decide) ?_
    refine t_cVi (n := 1) (C := RX11) (T := TX11) (N := 16) (As := [.int 2]) (rest := []) X hT (kt58_X11_no l G tag L F hT.2.2.2 p0 2 m0 g0) m0 g0 rfl rfl qw_1454 qw_1455 qw_1456 qw_2 qw_1457 ⟨rfl, by decide +kernel, by decide +kernel, by decide +kernel⟩ ⟨Nat.le_of_ble_eq_true rfl, Nat.le_of_ble_eq_true rfl⟩ hl rfl rfl (Nat.le_of_ble_eq_true rfl) dX11_lock_27 ⟨Nat.le_of_ble_eq_true rfl, Nat.le_of_ble_eq_true rfl⟩ (fun z42671 F H locs hT hz42671 => ?_)
    obtain ⟨hz42671, yz42671⟩ := hz42671
    have hfr : (∀ b j : Nat, (tag b ≠ 19 ∨ j ≠ 0) → (tag b ≠ 19 ∨ j ≠ 1) → (tag b ≠ 23 ∨ j ≠ 2) → (tag b ≠ 23 ∨ j ≠ 3) → (tag b ≠ 26 ∨ j ≠ 13) → fld F b j = fld Fo b j) ∧ EF tag F Fo := ⟨fun b j n19_0 n19_1 n23_2 n23_3 n26_13 => (yz42671.1 b j n26_13).trans (hfr.1 b j n19_0 n19_1 n23_2 n23_3 n26_13), fun b j hb => (yz42671.2 b j hb).trans (hfr.2 b j hb)⟩
    exact t_zret hQ X hT (nar_z (by omega)) (⟨(by omega), hfr⟩) (Nat.le_of_ble_eq_true rfl) (Nat.le_of_ble_eq_true rfl) dX11_lock_30
  refine lv_aload_n hx hb dX11_lock_0 rfl (lv_at hl 0 rfl) ?_
  refine lv_iload_n hx hb dX11_lock_1 rfl (lv_at hl 1 rfl) ?_
  refine lv_iload_n hx hb dX11_lock_2 rfl (lv_at hl 2 rfl) ?_
  refine t_cVi (n := 2) (C := RX11) (T := TX11) (N := 16) (As := [.int p1, .int p2]) (rest := []) X hT (kt70_X11_isSkin l G tag L F hT.2.2.2 p0 p1 p2 m0 g0) m0 g0 rfl rfl qw_823 qw_824 qw_825 qw_2 qw_826 ⟨rfl, by decide +kernel, by decide +kernel, by decide +kernel⟩ ⟨Nat.le_of_ble_eq_true rfl, Nat.le_of_ble_eq_true rfl⟩ hl rfl rfl (Nat.le_of_ble_eq_true rfl) dX11_lock_3 ⟨Nat.le_of_ble_eq_true rfl, Nat.le_of_ble_eq_true rfl⟩ (fun z42672 F9 H locs hT hz42672 => ?_)
  obtain ⟨fz42672, hz42672⟩ := hz42672
  rw [fz42672] at hT
  obtain ⟨hz42672, iz42672⟩ := hz42672
  refine lv_if_ne (tgt := 15) hx hb dX11_lock_6 (by decide) (fun c42673 => ?_) (fun c42673 => ?_)
  · have w42674 := cv_ne (rfl : z42672.toInt = z42672.toInt) (by decide : (0 : Int32).toInt = 0) c42673
    have w42675 := (fun h => (iz42672 h).1) (by omega)
    have w42676 := (fun h => (iz42672 h).2) (by omega)
    refine lv_iload_n hx hb dX11_lock_15 rfl (lv_at hl 3 rfl) ?_
    refine lv_if_lt (tgt := 25) hx hb dX11_lock_16 (by decide) (fun c42677 => ?_) (fun c42677 => ?_)
    · have w42678 := cv_lt (rfl : p3.toInt = p3.toInt) (by decide : (0 : Int32).toInt = 0) c42677
      exact K25  _ _ _ _ (by omega) (by omega) hT hfr  (lv_sub hl [0, 1, 2, 3] rfl)
    · have w42679 := cv_nlt (rfl : p3.toInt = p3.toInt) (by decide : (0 : Int32).toInt = 0) c42677
      refine lv_iload_n hx hb dX11_lock_19 rfl (lv_at hl 3 rfl) ?_
      refine lv_bipush (v := 99) hx hb dX11_lock_20 (by decide) ?_
      refine lv_icmp_le (tgt := 31) hx hb dX11_lock_22 (by decide) (fun c42680 => ?_) (fun c42680 => ?_)
      · have w42681 := cv_le (rfl : p3.toInt = p3.toInt) (by decide : (99 : Int32).toInt = 99) c42680
        refine lv_aload_n hx hb dX11_lock_31 rfl (lv_at hl 0 rfl) ?_
        refine t_get (C := RX11) (T := TX11) (N := 16) X hT m0 g0 rfl rfl 5 (by decide) qw_23 inlX11 rfl dX11_lock_32 (fun v42682 hv42682 ov42682 => ?_)
        obtain ⟨b42683, rfl, mb42683, gb42683⟩ := okV_r ov42682
        have gb42683 : tag b42683 = 19 := tg_of gb42683
        refine lv_iload_n hx hb dX11_lock_35 rfl (lv_at hl 1 rfl) ?_
        refine lv_iload_n hx hb dX11_lock_36 rfl (lv_at hl 2 rfl) ?_
        refine lv_iconst (v := 3) hx hb dX11_lock_37 (by decide) ?_
        refine t_cVi (n := 3) (C := RX7) (T := TX7) (N := 7) (As := [.int p1, .int p2, .int 3]) (rest := []) X hT (kt15_X7_partOf l G tag L F hT.2.2.2 b42683 p1 p2 3 mb42683 gb42683) mb42683 gb42683 rfl rfl qw_831 qw_778 qw_779 qw_22 qw_780 ⟨rfl, by decide +kernel, by decide +kernel, by decide +kernel⟩ ⟨Nat.le_of_ble_eq_true rfl, Nat.le_of_ble_eq_true rfl⟩ hl rfl rfl (Nat.le_of_ble_eq_true rfl) dX11_lock_38 ⟨Nat.le_of_ble_eq_true rfl, Nat.le_of_ble_eq_true rfl⟩ (fun z42684 F9 H locs hT hz42684 => ?_)
        obtain ⟨fz42684, hz42684⟩ := hz42684
        rw [fz42684] at hT
        refine lv_iload_n hx hb dX11_lock_41 rfl (lv_at hl 3 rfl) ?_
        refine lv_icmp_ne (tgt := 51) hx hb dX11_lock_42 (by decide) (fun c42685 => ?_) (fun c42685 => ?_)
        · have w42686 := cv_ne (rfl : z42684.toInt = z42684.toInt) (rfl : p3.toInt = p3.toInt) c42685
          refine lv_aload_n hx hb dX11_lock_51 rfl (lv_at hl 0 rfl) ?_
          refine t_get (C := RX11) (T := TX11) (N := 16) X hT m0 g0 rfl rfl 12 (by decide) qw_45 inlX11 rfl dX11_lock_52 (fun v42687 hv42687 ov42687 => ?_)
          obtain ⟨b42688, rfl, mb42688, gb42688⟩ := okV_r ov42687
          have gb42688 : tag b42688 = 23 := tg_of gb42688
          refine lv_aload_n hx hb dX11_lock_55 rfl (lv_at hl 0 rfl) ?_
          refine t_get (C := RX11) (T := TX11) (N := 16) X hT m0 g0 rfl rfl 5 (by decide) qw_23 inlX11 rfl dX11_lock_56 (fun v42689 hv42689 ov42689 => ?_)
          obtain rfl : v42689 = .ref b42683 := hv42689.symm.trans hv42682
          refine t_cVv (n := 1) (C := RX2) (T := TX2) (N := 5) (As := [.ref b42683]) (rest := []) X hT (kt66_X2_keep l G tag L F hT.2.2.2 b42688 b42683 mb42688 gb42688 mb42683 gb42683) mb42688 gb42688 rfl rfl qw_1427 qw_1428 qw_1429 qw_44 qw_1430 ⟨rfl, by decide +kernel, by decide +kernel, by decide +kernel⟩ ⟨Nat.le_of_ble_eq_true rfl, Nat.le_of_ble_eq_true rfl⟩ hl rfl rfl (Nat.le_of_ble_eq_true rfl) dX11_lock_59 ⟨Nat.le_of_ble_eq_true rfl, Nat.le_of_ble_eq_true rfl⟩ (fun F H locs hT hz42690 => ?_)
          have yz42690 := hz42690
          have hv42682 := (yz42690.1 _ 5 (Or.inr (by decide)) (Or.inr (by decide)) (Or.inr (by decide)) (Or.inr (by decide))).trans hv42682
          have hv42687 := (yz42690.1 _ 12 (Or.inr (by decide)) (Or.inr (by decide)) (Or.inr (by decide)) (Or.inr (by decide))).trans hv42687
          have hfr : (∀ b j : Nat, (tag b ≠ 19 ∨ j ≠ 0) → (tag b ≠ 19 ∨ j ≠ 1) → (tag b ≠ 23 ∨ j ≠ 2) → (tag b ≠ 23 ∨ j ≠ 3) → (tag b ≠ 26 ∨ j ≠ 13) → fld F b j = fld Fo b j) ∧ EF tag F Fo := ⟨fun b j n19_0 n19_1 n23_2 n23_3 n26_13 => (yz42690.1 b j n19_0 n19_1 n23_2 n23_3).trans (hfr.1 b j n19_0 n19_1 n23_2 n23_3 n26_13), fun b j hb => (yz42690.2 b j hb).trans (hfr.2 b j hb)⟩
          refine lv_aload_n hx hb dX11_lock_62 rfl (lv_at hl 0 rfl) ?_
          refine t_get (C := RX11) (T := TX11) (N := 16) X hT m0 g0 rfl rfl 5 (by decide) qw_23 inlX11 rfl dX11_lock_63 (fun v42691 hv42691 ov42691 => ?_)
          obtain rfl : v42691 = .ref b42683 := hv42691.symm.trans hv42682
          refine lv_iload_n hx hb dX11_lock_66 rfl (lv_at hl 1 rfl) ?_
          refine lv_iload_n hx hb dX11_lock_67 rfl (lv_at hl 2 rfl) ?_
          refine lv_iconst (v := 3) hx hb dX11_lock_68 (by decide) ?_
          refine lv_iload_n hx hb dX11_lock_69 rfl (lv_at hl 3 rfl) ?_
          refine t_cVv (n := 4) (C := RX7) (T := TX7) (N := 7) (As := [.int p1, .int p2, .int 3, .int p3]) (rest := []) X hT (kt16_X7_setPart l G tag L F hT.2.2.2 b42683 p1 p2 3 p3 mb42683 gb42683) mb42683 gb42683 rfl rfl qw_1459 qw_423 qw_424 qw_22 qw_425 ⟨rfl, by decide +kernel, by decide +kernel, by decide +kernel⟩ ⟨Nat.le_of_ble_eq_true rfl, Nat.le_of_ble_eq_true rfl⟩ hl rfl rfl (Nat.le_of_ble_eq_true rfl) dX11_lock_70 ⟨Nat.le_of_ble_eq_true rfl, Nat.le_of_ble_eq_true rfl⟩ (fun F H locs hT hz42692 => ?_)
          have yz42692 := hz42692
          have hv42682 := (yz42692.1 _ 5 ).trans hv42682
          have hv42687 := (yz42692.1 _ 12 ).trans hv42687
          have hfr : (∀ b j : Nat, (tag b ≠ 19 ∨ j ≠ 0) → (tag b ≠ 19 ∨ j ≠ 1) → (tag b ≠ 23 ∨ j ≠ 2) → (tag b ≠ 23 ∨ j ≠ 3) → (tag b ≠ 26 ∨ j ≠ 13) → fld F b j = fld Fo b j) ∧ EF tag F Fo := ⟨fun b j n19_0 n19_1 n23_2 n23_3 n26_13 => (yz42692.1 b j ).trans (hfr.1 b j n19_0 n19_1 n23_2 n23_3 n26_13), fun b j hb => (yz42692.2 b j hb).trans (hfr.2 b j hb)⟩
          refine lv_aload_n hx hb dX11_lock_73 rfl (lv_at hl 0 rfl) ?_
          refine t_cVi (n := 0) (C := RX11) (T := TX11) (N := 16) (As := []) (rest := []) X hT (kt59_X11_yes l G tag L F hT.2.2.2 p0 m0 g0) m0 g0 rfl rfl qw_1460 qw_1461 qw_1462 qw_2 qw_1463 ⟨rfl, by decide +kernel, by decide +kernel, by decide +kernel⟩ ⟨Nat.le_of_ble_eq_true rfl, Nat.le_of_ble_eq_true rfl⟩ hl rfl rfl (Nat.le_of_ble_eq_true rfl) dX11_lock_74 ⟨Nat.le_of_ble_eq_true rfl, Nat.le_of_ble_eq_true rfl⟩ (fun z42693 F H locs hT hz42693 => ?_)
          obtain ⟨hz42693, yz42693⟩ := hz42693
          have hv42682 := (yz42693.1 _ 5 (Or.inr (by decide))).trans hv42682
          have hv42687 := (yz42693.1 _ 12 (Or.inr (by decide))).trans hv42687
          have hfr : (∀ b j : Nat, (tag b ≠ 19 ∨ j ≠ 0) → (tag b ≠ 19 ∨ j ≠ 1) → (tag b ≠ 23 ∨ j ≠ 2) → (tag b ≠ 23 ∨ j ≠ 3) → (tag b ≠ 26 ∨ j ≠ 13) → fld F b j = fld Fo b j) ∧ EF tag F Fo := ⟨fun b j n19_0 n19_1 n23_2 n23_3 n26_13 => (yz42693.1 b j n26_13).trans (hfr.1 b j n19_0 n19_1 n23_2 n23_3 n26_13), fun b j hb => (yz42693.2 b j hb).trans (hfr.2 b j hb)⟩
          exact t_zret hQ X hT (nar_z (by omega)) (⟨(by omega), hfr⟩) (Nat.le_of_ble_eq_true rfl) (Nat.le_of_ble_eq_true rfl) dX11_lock_77
        · have w42694 := cv_eq (rfl : z42684.toInt = z42684.toInt) (rfl : p3.toInt = p3.toInt) c42685
          refine lv_aload_n hx hb dX11_lock_45 rfl (lv_at hl 0 rfl) ?_
          refine lv_iconst (v := 5) hx hb dX11_lock_46 (by decide) ?_
          refine t_cVi (n := 1) (C := RX11) (T := TX11) (N := 16) (As := [.int 5]) (rest := []) X hT (kt58_X11_no l G tag L F hT.2.2.2 p0 5 m0 g0) m0 g0 rfl rfl qw_1454 qw_1455 qw_1456 qw_2 qw_1457 ⟨rfl, by decide +kernel, by decide +kernel, by decide +kernel⟩ ⟨Nat.le_of_ble_eq_true rfl, Nat.le_of_ble_eq_true rfl⟩ hl rfl rfl (Nat.le_of_ble_eq_true rfl) dX11_lock_47 ⟨Nat.le_of_ble_eq_true rfl, Nat.le_of_ble_eq_true rfl⟩ (fun z42695 F H locs hT hz42695 => ?_)
          obtain ⟨hz42695, yz42695⟩ := hz42695
          have hv42682 := (yz42695.1 _ 5 (Or.inr (by decide))).trans hv42682
          have hfr : (∀ b j : Nat, (tag b ≠ 19 ∨ j ≠ 0) → (tag b ≠ 19 ∨ j ≠ 1) → (tag b ≠ 23 ∨ j ≠ 2) → (tag b ≠ 23 ∨ j ≠ 3) → (tag b ≠ 26 ∨ j ≠ 13) → fld F b j = fld Fo b j) ∧ EF tag F Fo := ⟨fun b j n19_0 n19_1 n23_2 n23_3 n26_13 => (yz42695.1 b j n26_13).trans (hfr.1 b j n19_0 n19_1 n23_2 n23_3 n26_13), fun b j hb => (yz42695.2 b j hb).trans (hfr.2 b j hb)⟩
          exact t_zret hQ X hT (nar_z (by omega)) (⟨(by omega), hfr⟩) (Nat.le_of_ble_eq_true rfl) (Nat.le_of_ble_eq_true rfl) dX11_lock_50
      · have w42696 := cv_nle (rfl : p3.toInt = p3.toInt) (by decide : (99 : Int32).toInt = 99) c42680
        exact K25  _ _ _ _ (by omega) (by omega) hT hfr  (lv_sub hl [0, 1, 2, 3] rfl)
  · have w42697 := cv_eq (rfl : z42672.toInt = z42672.toInt) (by decide : (0 : Int32).toInt = 0) c42673
    refine lv_aload_n hx hb dX11_lock_9 rfl (lv_at hl 0 rfl) ?_
    refine lv_iconst (v := 1) hx hb dX11_lock_10 (by decide) ?_
    refine t_cVi (n := 1) (C := RX11) (T := TX11) (N := 16) (As := [.int 1]) (rest := []) X hT (kt58_X11_no l G tag L F hT.2.2.2 p0 1 m0 g0) m0 g0 rfl rfl qw_1454 qw_1455 qw_1456 qw_2 qw_1457 ⟨rfl, by decide +kernel, by decide +kernel, by decide +kernel⟩ ⟨Nat.le_of_ble_eq_true rfl, Nat.le_of_ble_eq_true rfl⟩ hl rfl rfl (Nat.le_of_ble_eq_true rfl) dX11_lock_11 ⟨Nat.le_of_ble_eq_true rfl, Nat.le_of_ble_eq_true rfl⟩ (fun z42698 F H locs hT hz42698 => ?_)
    obtain ⟨hz42698, yz42698⟩ := hz42698
    have hfr : (∀ b j : Nat, (tag b ≠ 19 ∨ j ≠ 0) → (tag b ≠ 19 ∨ j ≠ 1) → (tag b ≠ 23 ∨ j ≠ 2) → (tag b ≠ 23 ∨ j ≠ 3) → (tag b ≠ 26 ∨ j ≠ 13) → fld F b j = fld Fo b j) ∧ EF tag F Fo := ⟨fun b j n19_0 n19_1 n23_2 n23_3 n26_13 => (yz42698.1 b j n26_13).trans (hfr.1 b j n19_0 n19_1 n23_2 n23_3 n26_13), fun b j hb => (yz42698.2 b j hb).trans (hfr.2 b j hb)⟩
    exact t_zret hQ X hT (nar_z (by omega)) (⟨(by omega), hfr⟩) (Nat.le_of_ble_eq_true rfl) (Nat.le_of_ble_eq_true rfl) dX11_lock_14
set_option maxHeartbeats 4000000 in
set_option maxRecDepth 100000 in
theorem kt122_X2_addMark (l : Launch) (G : KG) (tag : Nat → Nat) (L : List Nat) (Fo : Nat → va_E) (ho : okT G ttC tag L Fo) (p0 : Nat) (p1 : Nat) (m0 : p0 ∈ L) (g0 : tag p0 = 23) (m1 : p1 ∈ L) (g1 : tag p1 = 19) : TMi l yX2_addMark cX2_addMark 2 (some .int) { frames := 2, cells := 0, slots := 0, locals := 45 } G ttC tag L Fo [.ref p0, .ref p1] (fun r F1 => ((-1) ≤ r.toInt ∧ r.toInt ≤ 2) ∧ ((∀ b j : Nat, (tag b ≠ 19 ∨ j ≠ 0) → (tag b ≠ 19 ∨ j ≠ 1) → (tag b ≠ 23 ∨ j ≠ 4) → fld F1 b j = fld Fo b j) ∧ EF tag F1 Fo)) := by
  refine t_bodyi (y := yX2_addMark) (cd := cX2_addMark) (mL := 2) (rt := (some .int)) (rm := { frames := 2, cells := 0, slots := 0, locals := 45 }) (av := [.ref p0, .ref p1]) (by decide) (Nat.le_of_ble_eq_true rfl) ho ?_
  intro p e s m args below meth c ls A Q hQ X hT hl
  have hx := X.1.1
  have hb := X.1.2.1
  have hl : lv_has ls 2 [(0, .ref p0), (1, .ref p1)] := hl
  obtain ⟨F, hFo⟩ : ∃ F : Nat → va_E, F = Fo := ⟨_, rfl⟩
  rw [← hFo] at hT
  have hfr : (∀ b j : Nat, (tag b ≠ 19 ∨ j ≠ 0) → (tag b ≠ 19 ∨ j ≠ 1) → (tag b ≠ 23 ∨ j ≠ 4) → fld F b j = fld Fo b j) ∧ EF tag F Fo := by
    rw [hFo]
    exact ⟨by intros; rfl, fun _ _ _ => rfl⟩
  refine lv_aload_n hx hb dX2_addMark_0 rfl (lv_at hl 0 rfl) ?_
  refine t_get (C := RX2) (T := TX2) (N := 5) X hT m0 g0 rfl rfl 4 (by decide) qw_462 inlX2 rfl dX2_addMark_1 (fun v42872 hv42872 ov42872 => ?_)
  obtain ⟨z42873, rfl, rz42873⟩ := okV_i ov42872
  refine lv_iconst (v := 3) hx hb dX2_addMark_4 (by decide) ?_
  refine lv_icmp_lt (tgt := 10) hx hb dX2_addMark_5 (by decide) (fun c42874 => ?_) (fun c42874 => ?_)
  · have w42875 := cv_lt (rfl : z42873.toInt = z42873.toInt) (by decide : (3 : Int32).toInt = 3) c42874
    refine lv_aload_n hx hb dX2_addMark_10 rfl (lv_at hl 0 rfl) ?_
    refine t_get (C := RX2) (T := TX2) (N := 5) X hT m0 g0 rfl rfl 1 (by decide) qw_104 inlX2 rfl dX2_addMark_11 (fun v42876 hv42876 ov42876 => ?_)
    obtain ⟨b42877, rfl, mb42877, gb42877⟩ := okV_r ov42876
    have gb42877 : tag b42877 = 17 := tg_of gb42877
    refine lv_aload_n hx hb dX2_addMark_14 rfl (lv_at hl 0 rfl) ?_
    refine t_get (C := RX2) (T := TX2) (N := 5) X hT m0 g0 rfl rfl 4 (by decide) qw_462 inlX2 rfl dX2_addMark_15 (fun v42878 hv42878 ov42878 => ?_)
    obtain rfl : v42878 = .int z42873 := hv42878.symm.trans hv42872
    refine t_ald X hT mb42877 gb42877 rfl (by omega) dX2_addMark_18 (fun b42879 mb42879 gb42879 => ?_)
    have gb42879 : tag b42879 = 19 := tg_of gb42879
    refine lv_aload_n hx hb dX2_addMark_19 rfl (lv_at hl 1 rfl) ?_
    refine t_cVv (n := 1) (C := RX7) (T := TX7) (N := 7) (As := [.ref p1]) (rest := []) X hT (kt49_X7_copyFrom l G tag L F hT.2.2.2 b42879 p1 mb42879 gb42879 m1 g1) mb42879 gb42879 rfl rfl qw_1432 qw_450 qw_451 qw_22 qw_452 ⟨rfl, by decide +kernel, by decide +kernel, by decide +kernel⟩ ⟨Nat.le_of_ble_eq_true rfl, Nat.le_of_ble_eq_true rfl⟩ hl rfl rfl (Nat.le_of_ble_eq_true rfl) dX2_addMark_20 ⟨Nat.le_of_ble_eq_true rfl, Nat.le_of_ble_eq_true rfl⟩ (fun F H locs hT hz42880 => ?_)
    have yz42880 := hz42880
    have hv42872 := (yz42880.1 _ 4 (Or.inr (by decide)) (Or.inr (by decide))).trans hv42872
    have hv42876 := (yz42880.1 _ 1 (Or.inr (by decide)) (Or.inl (by rw [g0]; decide))).trans hv42876
    have hfr : (∀ b j : Nat, (tag b ≠ 19 ∨ j ≠ 0) → (tag b ≠ 19 ∨ j ≠ 1) → (tag b ≠ 23 ∨ j ≠ 4) → fld F b j = fld Fo b j) ∧ EF tag F Fo := ⟨fun b j n19_0 n19_1 n23_4 => (yz42880.1 b j n19_0 n19_1).trans (hfr.1 b j n19_0 n19_1 n23_4), fun b j hb => (yz42880.2 b j hb).trans (hfr.2 b j hb)⟩
    refine lv_aload_n hx hb dX2_addMark_23 rfl (lv_at hl 0 rfl) ?_
    refine lv_dup hx hb dX2_addMark_24 rfl ?_
    refine t_get (C := RX2) (T := TX2) (N := 5) X hT m0 g0 rfl rfl 4 (by decide) qw_462 inlX2 rfl dX2_addMark_25 (fun v42881 hv42881 ov42881 => ?_)
    obtain rfl : v42881 = .int z42873 := hv42881.symm.trans hv42872
    refine lv_iconst (v := 1) hx hb dX2_addMark_28 (by decide) ?_
    refine lv_iadd hx hb dX2_addMark_29 ?_
    refine lv_topi (fun z42882 ez42882 => ?_)
    have hz42882 : z42882.toInt = z42873.toInt + 1 := ar_add ez42882 (rfl : z42873.toInt = z42873.toInt) (by decide : (1 : Int32).toInt = 1) (by omega) (by omega)
    have rz42882 : 1 ≤ z42882.toInt ∧ z42882.toInt ≤ 3 := by omega
    refine t_put (C := RX2) (T := TX2) (N := 5) (v := .int z42882) X hT m0 g0 rfl tyX2 tyX2_ok nmX2 rfl 4 (by decide) qw_462 inlX2 rfl (by first | rfl | decide) (by first | rfl | decide) rfl (⟨_, rfl, (show 0 ≤ (z42882 : Int32).toInt from (by omega)), (show (z42882 : Int32).toInt ≤ 3 from (by omega))⟩) dX2_addMark_30 (fun F H locs hT v42883 h1v42883 h2v42883 => ?_)
    have hv42876 := (h1v42883 _ _ (Or.inr (by decide))).trans hv42876
    have hfr : (∀ b j : Nat, (tag b ≠ 19 ∨ j ≠ 0) → (tag b ≠ 19 ∨ j ≠ 1) → (tag b ≠ 23 ∨ j ≠ 4) → fld F b j = fld Fo b j) ∧ EF tag F Fo := ⟨fun b j n19_0 n19_1 n23_4 => (h1v42883 b j (fr_ne g0 n23_4)).trans (hfr.1 b j n19_0 n19_1 n23_4), fun b j hb => (h2v42883 b j).trans (hfr.2 b j hb)⟩
    refine lv_aload_n hx hb dX2_addMark_33 rfl (lv_at hl 0 rfl) ?_
    refine t_get (C := RX2) (T := TX2) (N := 5) X hT m0 g0 rfl rfl 4 (by decide) qw_462 inlX2 rfl dX2_addMark_34 (fun v42884 hv42884 ov42884 => ?_)
    obtain rfl : v42884 = .int z42882 := hv42884.symm.trans v42883
    refine lv_iconst (v := 1) hx hb dX2_addMark_37 (by decide) ?_
    refine lv_isub hx hb dX2_addMark_38 ?_
    refine lv_topi (fun z42885 ez42885 => ?_)
    have hz42885 : z42885.toInt = z42882.toInt - 1 := ar_sub ez42885 (rfl : z42882.toInt = z42882.toInt) (by decide : (1 : Int32).toInt = 1) (by omega) (by omega)
    have rz42885 : 0 ≤ z42885.toInt ∧ z42885.toInt ≤ 2 := by omega
    exact t_iret hQ X hT (⟨(by omega), hfr⟩) (Nat.le_of_ble_eq_true rfl) (Nat.le_of_ble_eq_true rfl) dX2_addMark_39
  · have w42886 := cv_nlt (rfl : z42873.toInt = z42873.toInt) (by decide : (3 : Int32).toInt = 3) c42874
    refine lv_iconst (v := (-1)) hx hb dX2_addMark_8 (by decide) ?_
    exact t_iret hQ X hT (⟨(by decide), hfr⟩) (Nat.le_of_ble_eq_true rfl) (Nat.le_of_ble_eq_true rfl) dX2_addMark_9
set_option maxHeartbeats 4000000 in
set_option maxRecDepth 100000 in
theorem kt123_X11_mark (l : Launch) (G : KG) (tag : Nat → Nat) (L : List Nat) (Fo : Nat → va_E) (ho : okT G ttC tag L Fo) (p0 : Nat) (m0 : p0 ∈ L) (g0 : tag p0 = 26) : TMi l yX11_mark cX11_mark 2 (some .int) { frames := 3, cells := 0, slots := 0, locals := 66 } G ttC tag L Fo [.ref p0] (fun r F1 => ((-2147483648) ≤ r.toInt ∧ r.toInt ≤ 2147483647) ∧ ((∀ b j : Nat, (tag b ≠ 19 ∨ j ≠ 0) → (tag b ≠ 19 ∨ j ≠ 1) → (tag b ≠ 23 ∨ j ≠ 4) → (tag b ≠ 26 ∨ j ≠ 13) → fld F1 b j = fld Fo b j) ∧ EF tag F1 Fo)) := by
  refine t_bodyi (y := yX11_mark) (cd := cX11_mark) (mL := 2) (rt := (some .int)) (rm := { frames := 3, cells := 0, slots := 0, locals := 66 }) (av := [.ref p0]) (by decide) (Nat.le_of_ble_eq_true rfl) ho ?_
  intro p e s m args below meth c ls A Q hQ X hT hl
  have hx := X.1.1
  have hb := X.1.2.1
  have hl : lv_has ls 2 [(0, .ref p0)] := hl
  obtain ⟨F, hFo⟩ : ∃ F : Nat → va_E, F = Fo := ⟨_, rfl⟩
  rw [← hFo] at hT
  have hfr : (∀ b j : Nat, (tag b ≠ 19 ∨ j ≠ 0) → (tag b ≠ 19 ∨ j ≠ 1) → (tag b ≠ 23 ∨ j ≠ 4) → (tag b ≠ 26 ∨ j ≠ 13) → fld F b j = fld Fo b j) ∧ EF tag F Fo := by
    rw [hFo]
    exact ⟨by intros; rfl, fun _ _ _ => rfl⟩
  refine lv_aload_n hx hb dX11_mark_0 rfl (lv_at hl 0 rfl) ?_
  refine t_get (C := RX11) (T := TX11) (N := 16) X hT m0 g0 rfl rfl 2 (by decide) qw_150 inlX11 rfl dX11_mark_1 (fun v43055 hv43055 ov43055 => ?_)
  obtain ⟨z43056, rfl, rz43056⟩ := okV_i ov43055
  refine lv_if_ne (tgt := 13) hx hb dX11_mark_4 (by decide) (fun c43057 => ?_) (fun c43057 => ?_)
  · have w43058 := cv_ne (rfl : z43056.toInt = z43056.toInt) (by decide : (0 : Int32).toInt = 0) c43057
    refine lv_aload_n hx hb dX11_mark_13 rfl (lv_at hl 0 rfl) ?_
    refine t_get (C := RX11) (T := TX11) (N := 16) X hT m0 g0 rfl rfl 12 (by decide) qw_45 inlX11 rfl dX11_mark_14 (fun v43059 hv43059 ov43059 => ?_)
    obtain ⟨b43060, rfl, mb43060, gb43060⟩ := okV_r ov43059
    have gb43060 : tag b43060 = 23 := tg_of gb43060
    refine lv_aload_n hx hb dX11_mark_17 rfl (lv_at hl 0 rfl) ?_
    refine t_get (C := RX11) (T := TX11) (N := 16) X hT m0 g0 rfl rfl 5 (by decide) qw_23 inlX11 rfl dX11_mark_18 (fun v43061 hv43061 ov43061 => ?_)
    obtain ⟨b43062, rfl, mb43062, gb43062⟩ := okV_r ov43061
    have gb43062 : tag b43062 = 19 := tg_of gb43062
    refine t_cVi (n := 1) (C := RX2) (T := TX2) (N := 5) (As := [.ref b43062]) (rest := []) X hT (kt122_X2_addMark l G tag L F hT.2.2.2 b43060 b43062 mb43060 gb43060 mb43062 gb43062) mb43060 gb43060 rfl rfl qw_1533 qw_1534 qw_1535 qw_44 qw_1536 ⟨rfl, by decide +kernel, by decide +kernel, by decide +kernel⟩ ⟨Nat.le_of_ble_eq_true rfl, Nat.le_of_ble_eq_true rfl⟩ hl rfl rfl (Nat.le_of_ble_eq_true rfl) dX11_mark_21 ⟨Nat.le_of_ble_eq_true rfl, Nat.le_of_ble_eq_true rfl⟩ (fun z43063 F H locs hT hz43063 => ?_)
    obtain ⟨hz43063, yz43063⟩ := hz43063
    have hv43055 := (yz43063.1 _ 2 (Or.inr (by decide)) (Or.inr (by decide)) (Or.inr (by decide))).trans hv43055
    have hv43059 := (yz43063.1 _ 12 (Or.inr (by decide)) (Or.inr (by decide)) (Or.inr (by decide))).trans hv43059
    have hv43061 := (yz43063.1 _ 5 (Or.inr (by decide)) (Or.inr (by decide)) (Or.inr (by decide))).trans hv43061
    have hfr : (∀ b j : Nat, (tag b ≠ 19 ∨ j ≠ 0) → (tag b ≠ 19 ∨ j ≠ 1) → (tag b ≠ 23 ∨ j ≠ 4) → (tag b ≠ 26 ∨ j ≠ 13) → fld F b j = fld Fo b j) ∧ EF tag F Fo := ⟨fun b j n19_0 n19_1 n23_4 n26_13 => (yz43063.1 b j n19_0 n19_1 n23_4).trans (hfr.1 b j n19_0 n19_1 n23_4 n26_13), fun b j hb => (yz43063.2 b j hb).trans (hfr.2 b j hb)⟩
    refine lv_istore_n (lv' := [(1, .int z43063), (0, .ref p0)]) hx hb dX11_mark_24 rfl hl (by decide) rfl (fun ls hl => ?_)
    refine lv_iload_n hx hb dX11_mark_25 rfl (lv_at hl 0 rfl) ?_
    refine lv_iconst (v := (-1)) hx hb dX11_mark_26 (by decide) ?_
    refine lv_icmp_ne (tgt := 38) hx hb dX11_mark_27 (by decide) (fun c43064 => ?_) (fun c43064 => ?_)
    · have w43065 := cv_ne (rfl : z43063.toInt = z43063.toInt) (by decide : ((-1) : Int32).toInt = (-1)) c43064
      refine lv_aload_n hx hb dX11_mark_38 rfl (lv_at hl 1 rfl) ?_
      refine lv_iload_n hx hb dX11_mark_39 rfl (lv_at hl 0 rfl) ?_
      refine t_cVi (n := 1) (C := RX11) (T := TX11) (N := 16) (As := [.int z43063]) (rest := []) X hT (kt56_X11_answer l G tag L F hT.2.2.2 p0 z43063 m0 g0) m0 g0 rfl rfl qw_463 qw_464 qw_465 qw_2 qw_466 ⟨rfl, by decide +kernel, by decide +kernel, by decide +kernel⟩ ⟨Nat.le_of_ble_eq_true rfl, Nat.le_of_ble_eq_true rfl⟩ hl rfl rfl (Nat.le_of_ble_eq_true rfl) dX11_mark_40 ⟨Nat.le_of_ble_eq_true rfl, Nat.le_of_ble_eq_true rfl⟩ (fun z43066 F H locs hT hz43066 => ?_)
      obtain ⟨hz43066, yz43066⟩ := hz43066
      have hv43055 := (yz43066.1 _ 2 (Or.inr (by decide))).trans hv43055
      have hv43059 := (yz43066.1 _ 12 (Or.inr (by decide))).trans hv43059
      have hv43061 := (yz43066.1 _ 5 (Or.inr (by decide))).trans hv43061
      have hfr : (∀ b j : Nat, (tag b ≠ 19 ∨ j ≠ 0) → (tag b ≠ 19 ∨ j ≠ 1) → (tag b ≠ 23 ∨ j ≠ 4) → (tag b ≠ 26 ∨ j ≠ 13) → fld F b j = fld Fo b j) ∧ EF tag F Fo := ⟨fun b j n19_0 n19_1 n23_4 n26_13 => (yz43066.1 b j n26_13).trans (hfr.1 b j n19_0 n19_1 n23_4 n26_13), fun b j hb => (yz43066.2 b j hb).trans (hfr.2 b j hb)⟩
      exact t_iret hQ X hT (⟨rg_all _, hfr⟩) (Nat.le_of_ble_eq_true rfl) (Nat.le_of_ble_eq_true rfl) dX11_mark_43
    · have w43067 := cv_eq (rfl : z43063.toInt = z43063.toInt) (by decide : ((-1) : Int32).toInt = (-1)) c43064
      refine lv_aload_n hx hb dX11_mark_30 rfl (lv_at hl 1 rfl) ?_
      refine lv_iconst (v := 3) hx hb dX11_mark_31 (by decide) ?_
      refine t_cVi (n := 1) (C := RX11) (T := TX11) (N := 16) (As := [.int 3]) (rest := []) X hT (kt63_X11_refuse l G tag L F hT.2.2.2 p0 3 m0 g0) m0 g0 rfl rfl qw_152 qw_153 qw_154 qw_2 qw_155 ⟨rfl, by decide +kernel, by decide +kernel, by decide +kernel⟩ ⟨Nat.le_of_ble_eq_true rfl, Nat.le_of_ble_eq_true rfl⟩ hl rfl rfl (Nat.le_of_ble_eq_true rfl) dX11_mark_32 ⟨Nat.le_of_ble_eq_true rfl, Nat.le_of_ble_eq_true rfl⟩ (fun z43068 F H locs hT hz43068 => ?_)
      obtain ⟨hz43068, yz43068⟩ := hz43068
      have hv43055 := (yz43068.1 _ 2 (Or.inr (by decide))).trans hv43055
      have hv43059 := (yz43068.1 _ 12 (Or.inr (by decide))).trans hv43059
      have hv43061 := (yz43068.1 _ 5 (Or.inr (by decide))).trans hv43061
      have hfr : (∀ b j : Nat, (tag b ≠ 19 ∨ j ≠ 0) → (tag b ≠ 19 ∨ j ≠ 1) → (tag b ≠ 23 ∨ j ≠ 4) → (tag b ≠ 26 ∨ j ≠ 13) → fld F b j = fld Fo b j) ∧ EF tag F Fo := ⟨fun b j n19_0 n19_1 n23_4 n26_13 => (yz43068.1 b j n26_13).trans (hfr.1 b j n19_0 n19_1 n23_4 n26_13), fun b j hb => (yz43068.2 b j hb).trans (hfr.2 b j hb)⟩
      refine lv_goto (tgt := 43) hx hb dX11_mark_35 (by decide) ?_
      exact t_iret hQ X hT (⟨rg_all _, hfr⟩) (Nat.le_of_ble_eq_true rfl) (Nat.le_of_ble_eq_true rfl) dX11_mark_43
  · have w43069 := cv_eq (rfl : z43056.toInt = z43056.toInt) (by decide : (0 : Int32).toInt = 0) c43057
    refine lv_aload_n hx hb dX11_mark_7 rfl (lv_at hl 0 rfl) ?_
    refine lv_iconst (v := 1) hx hb dX11_mark_8 (by decide) ?_
    refine t_cVi (n := 1) (C := RX11) (T := TX11) (N := 16) (As := [.int 1]) (rest := []) X hT (kt63_X11_refuse l G tag L F hT.2.2.2 p0 1 m0 g0) m0 g0 rfl rfl qw_152 qw_153 qw_154 qw_2 qw_155 ⟨rfl, by decide +kernel, by decide +kernel, by decide +kernel⟩ ⟨Nat.le_of_ble_eq_true rfl, Nat.le_of_ble_eq_true rfl⟩ hl rfl rfl (Nat.le_of_ble_eq_true rfl) dX11_mark_9 ⟨Nat.le_of_ble_eq_true rfl, Nat.le_of_ble_eq_true rfl⟩ (fun z43070 F H locs hT hz43070 => ?_)
    obtain ⟨hz43070, yz43070⟩ := hz43070
    have hv43055 := (yz43070.1 _ 2 (Or.inr (by decide))).trans hv43055
    have hfr : (∀ b j : Nat, (tag b ≠ 19 ∨ j ≠ 0) → (tag b ≠ 19 ∨ j ≠ 1) → (tag b ≠ 23 ∨ j ≠ 4) → (tag b ≠ 26 ∨ j ≠ 13) → fld F b j = fld Fo b j) ∧ EF tag F Fo := ⟨fun b j n19_0 n19_1 n23_4 n26_13 => (yz43070.1 b j n26_13).trans (hfr.1 b j n19_0 n19_1 n23_4 n26_13), fun b j hb => (yz43070.2 b j hb).trans (hfr.2 b j hb)⟩
    exact t_iret hQ X hT (⟨rg_all _, hfr⟩) (Nat.le_of_ble_eq_true rfl) (Nat.le_of_ble_eq_true rfl) dX11_mark_12
set_option maxHeartbeats 4000000 in
set_option maxRecDepth 100000 in
theorem kt124_X11_meet (l : Launch) (G : KG) (tag : Nat → Nat) (L : List Nat) (Fo : Nat → va_E) (ho : okT G ttC tag L Fo) (p0 : Nat) (p1 : Int32) (p2 : Int32) (p3 : Int32) (m0 : p0 ∈ L) (g0 : tag p0 = 26) : TMi l yX11_meet cX11_meet 5 (some .int) { frames := 6, cells := 0, slots := 0, locals := 157 } G ttC tag L Fo [.ref p0, .int p1, .int p2, .int p3] (fun r F1 => ((-2147483648) ≤ r.toInt ∧ r.toInt ≤ 2147483647) ∧ ((∀ b j : Nat, (tag b ≠ 19 ∨ j ≠ 0) → (tag b ≠ 19 ∨ j ≠ 1) → (tag b ≠ 26 ∨ j ≠ 13) → fld F1 b j = fld Fo b j) ∧ EF tag F1 Fo)) := by
  refine t_bodyi (y := yX11_meet) (cd := cX11_meet) (mL := 5) (rt := (some .int)) (rm := { frames := 6, cells := 0, slots := 0, locals := 157 }) (av := [.ref p0, .int p1, .int p2, .int p3]) (by decide) (Nat.le_of_ble_eq_true rfl) ho ?_
  intro p e s m args below meth c ls A Q hQ X hT hl
  have hx := X.1.1
  have hb := X.1.2.1
  have hl : lv_has ls 5 [(0, .ref p0), (1, .int p1), (2, .int p2), (3, .int p3)] := hl
  have rp1 := rg_all p1
  have rp2 := rg_all p2
  have rp3 := rg_all p3
  obtain ⟨F, hFo⟩ : ∃ F : Nat → va_E, F = Fo := ⟨_, rfl⟩
  rw [← hFo] at hT
  have hfr : (∀ b j : Nat, (tag b ≠ 19 ∨ j ≠ 0) → (tag b ≠ 19 ∨ j ≠ 1) → (tag b ≠ 26 ∨ j ≠ 13) → fld F b j = fld Fo b j) ∧ EF tag F Fo := by
    rw [hFo]
    exact ⟨by intros; rfl, fun _ _ _ => rfl⟩
  have K21 : ∀  (F : Nat → va_E) (H : Heap) (locs : List Loc) (ls : Array Slot), TH G ttC A s tag L F H locs → ((∀ b j : Nat, (tag b ≠ 19 ∨ j ≠ 0) → (tag b ≠ 19 ∨ j ≠ 1) → (tag b ≠ 26 ∨ j ≠ 13) → fld F b j = fld Fo b j) ∧ EF tag F Fo) → lv_has ls 5 [(0, .ref p0), (1, .int p1), (2, .int p2), (3, .int p3)] → W p l e { frames := 6, cells := 0, slots := 0, locals := 157 } s m args below meth c H locs 0 0 Q (F0 m 21 ls []) := by
    intro F H locs ls hT hfr hl
    refine lv_aload_n hx hb dX11_meet_21 rfl (lv_at hl 0 rfl) ?_
    refine lv_iconst (v := 1) hx hb dX11_meet_22 (by decide) ?_
    refine t_cVi (n := 1) (C := RX11) (T := TX11) (N := 16) (As := [.int 1]) (rest := []) X hT (kt63_X11_refuse l G tag L F hT.2.2.2 p0 1 m0 g0) m0 g0 rfl rfl qw_152 qw_153 qw_154 qw_2 qw_155 ⟨rfl, by decide +kernel, by decide +kernel, by decide +kernel⟩ ⟨Nat.le_of_ble_eq_true rfl, Nat.le_of_ble_eq_true rfl⟩ hl rfl rfl (Nat.le_of_ble_eq_true rfl) dX11_meet_23 ⟨Nat.le_of_ble_eq_true rfl, Nat.le_of_ble_eq_true rfl⟩ (fun z43906 F H locs hT hz43906 => ?_)
    obtain ⟨hz43906, yz43906⟩ := hz43906
    have hfr : (∀ b j : Nat, (tag b ≠ 19 ∨ j ≠ 0) → (tag b ≠ 19 ∨ j ≠ 1) → (tag b ≠ 26 ∨ j ≠ 13) → fld F b j = fld Fo b j) ∧ EF tag F Fo := ⟨fun b j n19_0 n19_1 n26_13 => (yz43906.1 b j n26_13).trans (hfr.1 b j n19_0 n19_1 n26_13), fun b j hb => (yz43906.2 b j hb).trans (hfr.2 b j hb)⟩
    exact t_iret hQ X hT (⟨rg_all _, hfr⟩) (Nat.le_of_ble_eq_true rfl) (Nat.le_of_ble_eq_true rfl) dX11_meet_26
  have K37 : ∀  (F : Nat → va_E) (H : Heap) (locs : List Loc) (ls : Array Slot), (0 ≤ p1.toInt ∧ p1.toInt ≤ 3) → (0 ≤ p2.toInt ∧ p2.toInt ≤ 3) → TH G ttC A s tag L F H locs → ((∀ b j : Nat, (tag b ≠ 19 ∨ j ≠ 0) → (tag b ≠ 19 ∨ j ≠ 1) → (tag b ≠ 26 ∨ j ≠ 13) → fld F b j = fld Fo b j) ∧ EF tag F Fo) → lv_has ls 5 [(0, .ref p0), (1, .int p1), (2, .int p2), (3, .int p3)] → W p l e { frames := 6, cells := 0, slots := 0, locals := 157 } s m args below meth c H locs 0 0 Q (F0 m 37 ls []) := by
    intro F H locs ls r9s43907 r9s43908 hT hfr hl
    refine lv_aload_n hx hb dX11_meet_37 rfl (lv_at hl 0 rfl) ?_
    refine lv_iconst (v := 2) hx hb dX11_meet_38 (by decide) ?_
    refine t_cVi (n := 1) (C := RX11) (T := TX11) (N := 16) (As := [.int 2]) (rest := []) X hT (kt63_X11_refuse l G tag L F hT.2.2.2 p0 2 m0 g0) m0 g0 rfl rfl qw_152 qw_153 qw_154 qw_2 qw_155 ⟨rfl, by decide +kernel, by decide +kernel, by decide +kernel⟩ ⟨Nat.le_of_ble_eq_true rfl, Nat.le_of_ble_eq_true rfl⟩ hl rfl rfl (Nat.le_of_ble_eq_true rfl) dX11_meet_39 ⟨Nat.le_of_ble_eq_true rfl, Nat.le_of_ble_eq_true rfl⟩ (fun z43909 F H locs hT hz43909 => ?_)
    obtain ⟨hz43909, yz43909⟩ := hz43909
    have hfr : (∀ b j : Nat, (tag b ≠ 19 ∨ j ≠ 0) → (tag b ≠ 19 ∨ j ≠ 1) → (tag b ≠ 26 ∨ j ≠ 13) → fld F b j = fld Fo b j) ∧ EF tag F Fo := ⟨fun b j n19_0 n19_1 n26_13 => (yz43909.1 b j n26_13).trans (hfr.1 b j n19_0 n19_1 n26_13), fun b j hb => (yz43909.2 b j hb).trans (hfr.2 b j hb)⟩
    exact t_iret hQ X hT (⟨rg_all _, hfr⟩) (Nat.le_of_ble_eq_true rfl) (Nat.le_of_ble_eq_true rfl) dX11_meet_42
  have K57 : ∀ (n : Nat) (z43913 : Int32) (F : Nat → va_E) (H : Heap) (locs : List Loc) (ls : Array Slot), (61 - z43913.toInt < (n : Int)) → (0 ≤ z43913.toInt ∧ z43913.toInt ≤ 61) → (0 ≤ p1.toInt ∧ p1.toInt ≤ 3) → (0 ≤ p2.toInt ∧ p2.toInt ≤ 3) → (0 ≤ p3.toInt ∧ p3.toInt ≤ 60) → TH G ttC A s tag L F H locs → ((∀ b j : Nat, (tag b ≠ 19 ∨ j ≠ 0) → (tag b ≠ 19 ∨ j ≠ 1) → (tag b ≠ 26 ∨ j ≠ 13) → fld F b j = fld Fo b j) ∧ EF tag F Fo) → lv_has ls 5 [(0, .ref p0), (1, .int p1), (2, .int p2), (3, .int p3), (4, .int z43913)] → W p l e { frames := 6, cells := 0, slots := 0, locals := 157 } s m args below meth c H locs 0 0 Q (F0 m 57 ls []) := by
    intro n
    induction n with
    | zero =>
      intro z43913 F H locs ls hn rz43913 r9s43910 r9s43911 r9s43912 hT hfr hl
      exfalso
      omega
    | succ n ih57 =>
      intro z43913 F H locs ls hn rz43913 r9s43910 r9s43911 r9s43912 hT hfr hl
      refine lv_iload hx hb dX11_meet_57 (lv_at hl 4 rfl) ?_
      refine lv_iload_n hx hb dX11_meet_59 rfl (lv_at hl 3 rfl) ?_
      refine lv_icmp_gt (tgt := 106) hx hb dX11_meet_60 (by decide) (fun c43914 => ?_) (fun c43914 => ?_)
      · have w43915 := cv_lt (rfl : p3.toInt = p3.toInt) (rfl : z43913.toInt = z43913.toInt) c43914
        refine lv_aload_n hx hb dX11_meet_106 rfl (lv_at hl 0 rfl) ?_
        refine lv_bipush (v := (-2)) hx hb dX11_meet_107 (by decide) ?_
        refine t_cVi (n := 1) (C := RX11) (T := TX11) (N := 16) (As := [.int (-2)]) (rest := []) X hT (kt56_X11_answer l G tag L F hT.2.2.2 p0 (-2) m0 g0) m0 g0 rfl rfl qw_463 qw_464 qw_465 qw_2 qw_466 ⟨rfl, by decide +kernel, by decide +kernel, by decide +kernel⟩ ⟨Nat.le_of_ble_eq_true rfl, Nat.le_of_ble_eq_true rfl⟩ hl rfl rfl (Nat.le_of_ble_eq_true rfl) dX11_meet_109 ⟨Nat.le_of_ble_eq_true rfl, Nat.le_of_ble_eq_true rfl⟩ (fun z43916 F H locs hT hz43916 => ?_)
        obtain ⟨hz43916, yz43916⟩ := hz43916
        have hfr : (∀ b j : Nat, (tag b ≠ 19 ∨ j ≠ 0) → (tag b ≠ 19 ∨ j ≠ 1) → (tag b ≠ 26 ∨ j ≠ 13) → fld F b j = fld Fo b j) ∧ EF tag F Fo := ⟨fun b j n19_0 n19_1 n26_13 => (yz43916.1 b j n26_13).trans (hfr.1 b j n19_0 n19_1 n26_13), fun b j hb => (yz43916.2 b j hb).trans (hfr.2 b j hb)⟩
        exact t_iret hQ X hT (⟨rg_all _, hfr⟩) (Nat.le_of_ble_eq_true rfl) (Nat.le_of_ble_eq_true rfl) dX11_meet_112
      · have w43917 := cv_nlt (rfl : p3.toInt = p3.toInt) (rfl : z43913.toInt = z43913.toInt) c43914
        refine lv_aload_n hx hb dX11_meet_63 rfl (lv_at hl 0 rfl) ?_
        refine t_get (C := RX11) (T := TX11) (N := 16) X hT m0 g0 rfl rfl 3 (by decide) qw_18 inlX11 rfl dX11_meet_64 (fun v43918 hv43918 ov43918 => ?_)
        obtain ⟨b43919, rfl, mb43919, gb43919⟩ := okV_r ov43918
        have gb43919 : tag b43919 = 18 := tg_of gb43919
        refine lv_aload_n hx hb dX11_meet_67 rfl (lv_at hl 0 rfl) ?_
        refine t_get (C := RX11) (T := TX11) (N := 16) X hT m0 g0 rfl rfl 7 (by decide) qw_25 inlX11 rfl dX11_meet_68 (fun v43920 hv43920 ov43920 => ?_)
        obtain ⟨b43921, rfl, mb43921, gb43921⟩ := okV_r ov43920
        have gb43921 : tag b43921 = 19 := tg_of gb43921
        refine lv_iload_n hx hb dX11_meet_71 rfl (lv_at hl 1 rfl) ?_
        refine lv_iload_n hx hb dX11_meet_72 rfl (lv_at hl 2 rfl) ?_
        refine t_cSi (n := 4) (As := [.ref b43919, .ref b43921, .int p1, .int p2]) (rest := []) X hT (kt32_X6_isMet l G tag L F hT.2.2.2 b43919 b43921 p1 p2 mb43919 gb43919 mb43921 gb43921 (by omega) (by omega)) qw_1197 qw_1198 qw_380 qw_1199 ⟨by decide +kernel, by decide +kernel, by decide +kernel⟩ ⟨Nat.le_of_ble_eq_true rfl, Nat.le_of_ble_eq_true rfl⟩ hl rfl rfl (Nat.le_of_ble_eq_true rfl) dX11_meet_73 ⟨Nat.le_of_ble_eq_true rfl, Nat.le_of_ble_eq_true rfl⟩ (fun z43922 F9 H locs hT hz43922 => ?_)
        obtain ⟨fz43922, hz43922⟩ := hz43922
        rw [fz43922] at hT
        refine lv_if_eq (tgt := 86) hx hb dX11_meet_76 (by decide) (fun c43923 => ?_) (fun c43923 => ?_)
        · have w43924 := cv_eq (rfl : z43922.toInt = z43922.toInt) (by decide : (0 : Int32).toInt = 0) c43923
          refine lv_aload_n hx hb dX11_meet_86 rfl (lv_at hl 0 rfl) ?_
          refine t_get (C := RX11) (T := TX11) (N := 16) X hT m0 g0 rfl rfl 3 (by decide) qw_18 inlX11 rfl dX11_meet_87 (fun v43925 hv43925 ov43925 => ?_)
          obtain rfl : v43925 = .ref b43919 := hv43925.symm.trans hv43918
          refine lv_aload_n hx hb dX11_meet_90 rfl (lv_at hl 0 rfl) ?_
          refine t_get (C := RX11) (T := TX11) (N := 16) X hT m0 g0 rfl rfl 7 (by decide) qw_25 inlX11 rfl dX11_meet_91 (fun v43926 hv43926 ov43926 => ?_)
          obtain rfl : v43926 = .ref b43921 := hv43926.symm.trans hv43920
          refine t_gets X hT X.2.2.2.1.2.1.2.2.2 qw_1096 dX11_meet_94 ?_
          refine t_cSv (n := 3) (As := [.ref b43919, .ref b43921, .ref (G.2 13)]) (rest := []) X hT (kt71_X10_pass l G tag L F hT.2.2.2 b43919 b43921 mb43919 gb43919 mb43921 gb43921) qw_1097 qw_1098 qw_32 qw_1099 ⟨by decide +kernel, by decide +kernel, by decide +kernel⟩ ⟨Nat.le_of_ble_eq_true rfl, Nat.le_of_ble_eq_true rfl⟩ hl rfl rfl (Nat.le_of_ble_eq_true rfl) dX11_meet_97 ⟨Nat.le_of_ble_eq_true rfl, Nat.le_of_ble_eq_true rfl⟩ (fun F H locs hT hz43927 => ?_)
          have yz43927 := hz43927
          have hv43918 := (yz43927.1 _ 3 (Or.inr (by decide)) (Or.inr (by decide))).trans hv43918
          have hv43920 := (yz43927.1 _ 7 (Or.inr (by decide)) (Or.inr (by decide))).trans hv43920
          have hfr : (∀ b j : Nat, (tag b ≠ 19 ∨ j ≠ 0) → (tag b ≠ 19 ∨ j ≠ 1) → (tag b ≠ 26 ∨ j ≠ 13) → fld F b j = fld Fo b j) ∧ EF tag F Fo := ⟨fun b j n19_0 n19_1 n26_13 => (yz43927.1 b j n19_0 n19_1).trans (hfr.1 b j n19_0 n19_1 n26_13), fun b j hb => (yz43927.2 b j hb).trans (hfr.2 b j hb)⟩
          obtain ⟨z43928, ez43928⟩ : ∃ y : Int32, y = z43913 + 1 := ⟨_, rfl⟩
          have hz43928 : z43928.toInt = z43913.toInt + 1 := ar_add ez43928 rfl (by decide : (1 : Int32).toInt = 1) (by omega) (by omega)
          refine lv_iinc (v := z43928) (lv' := [(4, .int z43928), (0, .ref p0), (1, .int p1), (2, .int p2), (3, .int p3)]) hx hb dX11_meet_100 hl (k := 4) rfl (by rw [ez43928]; rfl) (by decide) rfl (fun ls hl => ?_)
          refine lv_goto (tgt := 57) hx hb dX11_meet_103 (by decide) ?_
          exact ih57 z43928 _ _ _ _ (by omega) (by omega) (by omega) (by omega) (by omega) hT hfr  (lv_sub hl [1, 2, 3, 4, 0] rfl)
        · have w43929 := cv_ne (rfl : z43922.toInt = z43922.toInt) (by decide : (0 : Int32).toInt = 0) c43923
          refine lv_aload_n hx hb dX11_meet_79 rfl (lv_at hl 0 rfl) ?_
          refine lv_iload hx hb dX11_meet_80 (lv_at hl 4 rfl) ?_
          refine t_cVi (n := 1) (C := RX11) (T := TX11) (N := 16) (As := [.int z43913]) (rest := []) X hT (kt56_X11_answer l G tag L F hT.2.2.2 p0 z43913 m0 g0) m0 g0 rfl rfl qw_463 qw_464 qw_465 qw_2 qw_466 ⟨rfl, by decide +kernel, by decide +kernel, by decide +kernel⟩ ⟨Nat.le_of_ble_eq_true rfl, Nat.le_of_ble_eq_true rfl⟩ hl rfl rfl (Nat.le_of_ble_eq_true rfl) dX11_meet_82 ⟨Nat.le_of_ble_eq_true rfl, Nat.le_of_ble_eq_true rfl⟩ (fun z43930 F H locs hT hz43930 => ?_)
          obtain ⟨hz43930, yz43930⟩ := hz43930
          have hv43918 := (yz43930.1 _ 3 (Or.inr (by decide))).trans hv43918
          have hv43920 := (yz43930.1 _ 7 (Or.inr (by decide))).trans hv43920
          have hfr : (∀ b j : Nat, (tag b ≠ 19 ∨ j ≠ 0) → (tag b ≠ 19 ∨ j ≠ 1) → (tag b ≠ 26 ∨ j ≠ 13) → fld F b j = fld Fo b j) ∧ EF tag F Fo := ⟨fun b j n19_0 n19_1 n26_13 => (yz43930.1 b j n26_13).trans (hfr.1 b j n19_0 n19_1 n26_13), fun b j hb => (yz43930.2 b j hb).trans (hfr.2 b j hb)⟩
          exact t_iret hQ X hT (⟨rg_all _, hfr⟩) (Nat.le_of_ble_eq_true rfl) (Nat.le_of_ble_eq_true rfl) dX11_meet_85
  refine lv_aload_n hx hb dX11_meet_0 rfl (lv_at hl 0 rfl) ?_
  refine lv_iload_n hx hb dX11_meet_1 rfl (lv_at hl 1 rfl) ?_
  refine t_cVi (n := 1) (C := RX11) (T := TX11) (N := 16) (As := [.int p1]) (rest := []) X hT (kt61_X11_isHouse l G tag L F hT.2.2.2 p0 p1 m0 g0) m0 g0 rfl rfl qw_770 qw_771 qw_772 qw_2 qw_773 ⟨rfl, by decide +kernel, by decide +kernel, by decide +kernel⟩ ⟨Nat.le_of_ble_eq_true rfl, Nat.le_of_ble_eq_true rfl⟩ hl rfl rfl (Nat.le_of_ble_eq_true rfl) dX11_meet_2 ⟨Nat.le_of_ble_eq_true rfl, Nat.le_of_ble_eq_true rfl⟩ (fun z43931 F9 H locs hT hz43931 => ?_)
  obtain ⟨fz43931, hz43931⟩ := hz43931
  rw [fz43931] at hT
  obtain ⟨hz43931, iz43931⟩ := hz43931
  refine lv_if_eq (tgt := 21) hx hb dX11_meet_5 (by decide) (fun c43932 => ?_) (fun c43932 => ?_)
  · have w43933 := cv_eq (rfl : z43931.toInt = z43931.toInt) (by decide : (0 : Int32).toInt = 0) c43932
    exact K21  _ _ _ _  hT hfr  (lv_sub hl [0, 1, 2, 3] rfl)
  · have w43934 := cv_ne (rfl : z43931.toInt = z43931.toInt) (by decide : (0 : Int32).toInt = 0) c43932
    have w43935 := (fun h => (iz43931 h)) (by omega)
    refine lv_aload_n hx hb dX11_meet_8 rfl (lv_at hl 0 rfl) ?_
    refine lv_iload_n hx hb dX11_meet_9 rfl (lv_at hl 2 rfl) ?_
    refine t_cVi (n := 1) (C := RX11) (T := TX11) (N := 16) (As := [.int p2]) (rest := []) X hT (kt61_X11_isHouse l G tag L F hT.2.2.2 p0 p2 m0 g0) m0 g0 rfl rfl qw_770 qw_771 qw_772 qw_2 qw_773 ⟨rfl, by decide +kernel, by decide +kernel, by decide +kernel⟩ ⟨Nat.le_of_ble_eq_true rfl, Nat.le_of_ble_eq_true rfl⟩ hl rfl rfl (Nat.le_of_ble_eq_true rfl) dX11_meet_10 ⟨Nat.le_of_ble_eq_true rfl, Nat.le_of_ble_eq_true rfl⟩ (fun z43936 F9 H locs hT hz43936 => ?_)
    obtain ⟨fz43936, hz43936⟩ := hz43936
    rw [fz43936] at hT
    obtain ⟨hz43936, iz43936⟩ := hz43936
    refine lv_if_eq (tgt := 21) hx hb dX11_meet_13 (by decide) (fun c43937 => ?_) (fun c43937 => ?_)
    · have w43938 := cv_eq (rfl : z43936.toInt = z43936.toInt) (by decide : (0 : Int32).toInt = 0) c43937
      exact K21  _ _ _ _  hT hfr  (lv_sub hl [0, 1, 2, 3] rfl)
    · have w43939 := cv_ne (rfl : z43936.toInt = z43936.toInt) (by decide : (0 : Int32).toInt = 0) c43937
      have w43940 := (fun h => (iz43936 h)) (by omega)
      refine lv_iload_n hx hb dX11_meet_16 rfl (lv_at hl 1 rfl) ?_
      refine lv_iload_n hx hb dX11_meet_17 rfl (lv_at hl 2 rfl) ?_
      refine lv_icmp_ne (tgt := 27) hx hb dX11_meet_18 (by decide) (fun c43941 => ?_) (fun c43941 => ?_)
      · have w43942 := cv_ne (rfl : p1.toInt = p1.toInt) (rfl : p2.toInt = p2.toInt) c43941
        refine lv_iload_n hx hb dX11_meet_27 rfl (lv_at hl 3 rfl) ?_
        refine lv_if_lt (tgt := 37) hx hb dX11_meet_28 (by decide) (fun c43943 => ?_) (fun c43943 => ?_)
        · have w43944 := cv_lt (rfl : p3.toInt = p3.toInt) (by decide : (0 : Int32).toInt = 0) c43943
          exact K37  _ _ _ _ (by omega) (by omega) hT hfr  (lv_sub hl [0, 1, 2, 3] rfl)
        · have w43945 := cv_nlt (rfl : p3.toInt = p3.toInt) (by decide : (0 : Int32).toInt = 0) c43943
          refine lv_iload_n hx hb dX11_meet_31 rfl (lv_at hl 3 rfl) ?_
          refine lv_bipush (v := 60) hx hb dX11_meet_32 (by decide) ?_
          refine lv_icmp_le (tgt := 43) hx hb dX11_meet_34 (by decide) (fun c43946 => ?_) (fun c43946 => ?_)
          · have w43947 := cv_le (rfl : p3.toInt = p3.toInt) (by decide : (60 : Int32).toInt = 60) c43946
            refine lv_aload_n hx hb dX11_meet_43 rfl (lv_at hl 0 rfl) ?_
            refine t_get (C := RX11) (T := TX11) (N := 16) X hT m0 g0 rfl rfl 7 (by decide) qw_25 inlX11 rfl dX11_meet_44 (fun v43948 hv43948 ov43948 => ?_)
            obtain ⟨b43949, rfl, mb43949, gb43949⟩ := okV_r ov43948
            have gb43949 : tag b43949 = 19 := tg_of gb43949
            refine lv_aload_n hx hb dX11_meet_47 rfl (lv_at hl 0 rfl) ?_
            refine t_get (C := RX11) (T := TX11) (N := 16) X hT m0 g0 rfl rfl 5 (by decide) qw_23 inlX11 rfl dX11_meet_48 (fun v43950 hv43950 ov43950 => ?_)
            obtain ⟨b43951, rfl, mb43951, gb43951⟩ := okV_r ov43950
            have gb43951 : tag b43951 = 19 := tg_of gb43951
            refine t_cVv (n := 1) (C := RX7) (T := TX7) (N := 7) (As := [.ref b43951]) (rest := []) X hT (kt49_X7_copyFrom l G tag L F hT.2.2.2 b43949 b43951 mb43949 gb43949 mb43951 gb43951) mb43949 gb43949 rfl rfl qw_449 qw_450 qw_451 qw_22 qw_452 ⟨rfl, by decide +kernel, by decide +kernel, by decide +kernel⟩ ⟨Nat.le_of_ble_eq_true rfl, Nat.le_of_ble_eq_true rfl⟩ hl rfl rfl (Nat.le_of_ble_eq_true rfl) dX11_meet_51 ⟨Nat.le_of_ble_eq_true rfl, Nat.le_of_ble_eq_true rfl⟩ (fun F H locs hT hz43952 => ?_)
            have yz43952 := hz43952
            have hv43948 := (yz43952.1 _ 7 (Or.inr (by decide)) (Or.inr (by decide))).trans hv43948
            have hv43950 := (yz43952.1 _ 5 (Or.inr (by decide)) (Or.inr (by decide))).trans hv43950
            have hfr : (∀ b j : Nat, (tag b ≠ 19 ∨ j ≠ 0) → (tag b ≠ 19 ∨ j ≠ 1) → (tag b ≠ 26 ∨ j ≠ 13) → fld F b j = fld Fo b j) ∧ EF tag F Fo := ⟨fun b j n19_0 n19_1 n26_13 => (yz43952.1 b j n19_0 n19_1).trans (hfr.1 b j n19_0 n19_1 n26_13), fun b j hb => (yz43952.2 b j hb).trans (hfr.2 b j hb)⟩
            refine lv_iconst (v := 0) hx hb dX11_meet_54 (by decide) ?_
            refine lv_istore (lv' := [(4, .int 0), (0, .ref p0), (1, .int p1), (2, .int p2), (3, .int p3)]) hx hb dX11_meet_55 hl (by decide) rfl (fun ls hl => ?_)
            have kk43953 : (0 : Int32).toInt = 0 := by decide
            exact K57 62 0 _ _ _ _ (by omega) (by decide) (by omega) (by omega) (by omega) hT hfr  (lv_sub hl [1, 2, 3, 4, 0] rfl)
          · have w43954 := cv_nle (rfl : p3.toInt = p3.toInt) (by decide : (60 : Int32).toInt = 60) c43946
            exact K37  _ _ _ _ (by omega) (by omega) hT hfr  (lv_sub hl [0, 1, 2, 3] rfl)
      · have w43955 := cv_eq (rfl : p1.toInt = p1.toInt) (rfl : p2.toInt = p2.toInt) c43941
        exact K21  _ _ _ _  hT hfr  (lv_sub hl [0, 1, 2, 3] rfl)
set_option maxHeartbeats 4000000 in
set_option maxRecDepth 100000 in
theorem kt125_X11_move (l : Launch) (G : KG) (tag : Nat → Nat) (L : List Nat) (Fo : Nat → va_E) (ho : okT G ttC tag L Fo) (p0 : Nat) (p1 : Int32) (p2 : Int32) (m0 : p0 ∈ L) (g0 : tag p0 = 26) : TMi l yX11_move cX11_move 3 (some .boolean) { frames := 3, cells := 0, slots := 0, locals := 68 } G ttC tag L Fo [.ref p0, .int p1, .int p2] (fun r F1 => (0 ≤ r.toInt ∧ r.toInt ≤ 1) ∧ ((∀ b j : Nat, (tag b ≠ 19 ∨ j ≠ 0) → (tag b ≠ 19 ∨ j ≠ 1) → (tag b ≠ 23 ∨ j ≠ 2) → (tag b ≠ 23 ∨ j ≠ 3) → (tag b ≠ 26 ∨ j ≠ 13) → fld F1 b j = fld Fo b j) ∧ EF tag F1 Fo)) := by
  refine t_bodyi (y := yX11_move) (cd := cX11_move) (mL := 3) (rt := (some .boolean)) (rm := { frames := 3, cells := 0, slots := 0, locals := 68 }) (av := [.ref p0, .int p1, .int p2]) (by decide) (Nat.le_of_ble_eq_true rfl) ho ?_
  intro p e s m args below meth c ls A Q hQ X hT hl
  have hx := X.1.1
  have hb := X.1.2.1
  have hl : lv_has ls 3 [(0, .ref p0), (1, .int p1), (2, .int p2)] := hl
  have rp1 := rg_all p1
  have rp2 := rg_all p2
  obtain ⟨F, hFo⟩ : ∃ F : Nat → va_E, F = Fo := ⟨_, rfl⟩
  rw [← hFo] at hT
  have hfr : (∀ b j : Nat, (tag b ≠ 19 ∨ j ≠ 0) → (tag b ≠ 19 ∨ j ≠ 1) → (tag b ≠ 23 ∨ j ≠ 2) → (tag b ≠ 23 ∨ j ≠ 3) → (tag b ≠ 26 ∨ j ≠ 13) → fld F b j = fld Fo b j) ∧ EF tag F Fo := by
    rw [hFo]
    exact ⟨by intros; rfl, fun _ _ _ => rfl⟩
  have K25 : ∀  (F : Nat → va_E) (H : Heap) (locs : List Loc) (ls : Array Slot), TH G ttC A s tag L F H locs → ((∀ b j : Nat, (tag b ≠ 19 ∨ j ≠ 0) → (tag b ≠ 19 ∨ j ≠ 1) → (tag b ≠ 23 ∨ j ≠ 2) → (tag b ≠ 23 ∨ j ≠ 3) → (tag b ≠ 26 ∨ j ≠ 13) → fld F b j = fld Fo b j) ∧ EF tag F Fo) → lv_has ls 3 [(0, .ref p0), (1, .int p1), (2, .int p2)] → W p l e { frames := 3, cells := 0, slots := 0, locals := 68 } s m args below meth c H locs 0 0 Q (F0 m 25 ls []) := by
    intro F H locs ls hT hfr hl
    refine lv_aload_n hx hb dX11_move_25 rfl (lv_at hl 0 rfl) ?_
    refine lv_iconst (v := 1) hx hb dX11_move_26 (by decide) ?_
    refine t_cVi (n := 1) (C := RX11) (T := TX11) (N := 16) (As := [.int 1]) (rest := []) X hT (kt58_X11_no l G tag L F hT.2.2.2 p0 1 m0 g0) m0 g0 rfl rfl qw_1454 qw_1455 qw_1456 qw_2 qw_1457 ⟨rfl, by decide +kernel, by decide +kernel, by decide +kernel⟩ ⟨Nat.le_of_ble_eq_true rfl, Nat.le_of_ble_eq_true rfl⟩ hl rfl rfl (Nat.le_of_ble_eq_true rfl) dX11_move_27 ⟨Nat.le_of_ble_eq_true rfl, Nat.le_of_ble_eq_true rfl⟩ (fun z44506 F H locs hT hz44506 => ?_)
    obtain ⟨hz44506, yz44506⟩ := hz44506
    have hfr : (∀ b j : Nat, (tag b ≠ 19 ∨ j ≠ 0) → (tag b ≠ 19 ∨ j ≠ 1) → (tag b ≠ 23 ∨ j ≠ 2) → (tag b ≠ 23 ∨ j ≠ 3) → (tag b ≠ 26 ∨ j ≠ 13) → fld F b j = fld Fo b j) ∧ EF tag F Fo := ⟨fun b j n19_0 n19_1 n23_2 n23_3 n26_13 => (yz44506.1 b j n26_13).trans (hfr.1 b j n19_0 n19_1 n23_2 n23_3 n26_13), fun b j hb => (yz44506.2 b j hb).trans (hfr.2 b j hb)⟩
    exact t_zret hQ X hT (nar_z (by omega)) (⟨(by omega), hfr⟩) (Nat.le_of_ble_eq_true rfl) (Nat.le_of_ble_eq_true rfl) dX11_move_30
  have K68 : ∀  (F : Nat → va_E) (H : Heap) (locs : List Loc) (ls : Array Slot), (0 ≤ p1.toInt ∧ p1.toInt ≤ 5) → (0 ≤ p2.toInt ∧ p2.toInt ≤ 6) → TH G ttC A s tag L F H locs → ((∀ b j : Nat, (tag b ≠ 19 ∨ j ≠ 0) → (tag b ≠ 19 ∨ j ≠ 1) → (tag b ≠ 23 ∨ j ≠ 2) → (tag b ≠ 23 ∨ j ≠ 3) → (tag b ≠ 26 ∨ j ≠ 13) → fld F b j = fld Fo b j) ∧ EF tag F Fo) → lv_has ls 3 [(0, .ref p0), (1, .int p1), (2, .int p2)] → W p l e { frames := 3, cells := 0, slots := 0, locals := 68 } s m args below meth c H locs 0 0 Q (F0 m 68 ls []) := by
    intro F H locs ls r9s44507 r9s44508 hT hfr hl
    refine lv_aload_n hx hb dX11_move_68 rfl (lv_at hl 0 rfl) ?_
    refine lv_iconst (v := 5) hx hb dX11_move_69 (by decide) ?_
    refine t_cVi (n := 1) (C := RX11) (T := TX11) (N := 16) (As := [.int 5]) (rest := []) X hT (kt58_X11_no l G tag L F hT.2.2.2 p0 5 m0 g0) m0 g0 rfl rfl qw_1454 qw_1455 qw_1456 qw_2 qw_1457 ⟨rfl, by decide +kernel, by decide +kernel, by decide +kernel⟩ ⟨Nat.le_of_ble_eq_true rfl, Nat.le_of_ble_eq_true rfl⟩ hl rfl rfl (Nat.le_of_ble_eq_true rfl) dX11_move_70 ⟨Nat.le_of_ble_eq_true rfl, Nat.le_of_ble_eq_true rfl⟩ (fun z44509 F H locs hT hz44509 => ?_)
    obtain ⟨hz44509, yz44509⟩ := hz44509
    have hfr : (∀ b j : Nat, (tag b ≠ 19 ∨ j ≠ 0) → (tag b ≠ 19 ∨ j ≠ 1) → (tag b ≠ 23 ∨ j ≠ 2) → (tag b ≠ 23 ∨ j ≠ 3) → (tag b ≠ 26 ∨ j ≠ 13) → fld F b j = fld Fo b j) ∧ EF tag F Fo := ⟨fun b j n19_0 n19_1 n23_2 n23_3 n26_13 => (yz44509.1 b j n26_13).trans (hfr.1 b j n19_0 n19_1 n23_2 n23_3 n26_13), fun b j hb => (yz44509.2 b j hb).trans (hfr.2 b j hb)⟩
    exact t_zret hQ X hT (nar_z (by omega)) (⟨(by omega), hfr⟩) (Nat.le_of_ble_eq_true rfl) (Nat.le_of_ble_eq_true rfl) dX11_move_73
  have K74 : ∀  (F : Nat → va_E) (H : Heap) (locs : List Loc) (ls : Array Slot), (0 ≤ p1.toInt ∧ p1.toInt ≤ 5) → (0 ≤ p2.toInt ∧ p2.toInt ≤ 6) → TH G ttC A s tag L F H locs → ((∀ b j : Nat, (tag b ≠ 19 ∨ j ≠ 0) → (tag b ≠ 19 ∨ j ≠ 1) → (tag b ≠ 23 ∨ j ≠ 2) → (tag b ≠ 23 ∨ j ≠ 3) → (tag b ≠ 26 ∨ j ≠ 13) → fld F b j = fld Fo b j) ∧ EF tag F Fo) → lv_has ls 3 [(0, .ref p0), (1, .int p1), (2, .int p2)] → W p l e { frames := 3, cells := 0, slots := 0, locals := 68 } s m args below meth c H locs 0 0 Q (F0 m 74 ls []) := by
    intro F H locs ls r9s44510 r9s44511 hT hfr hl
    refine lv_aload_n hx hb dX11_move_74 rfl (lv_at hl 0 rfl) ?_
    refine t_get (C := RX11) (T := TX11) (N := 16) X hT m0 g0 rfl rfl 12 (by decide) qw_45 inlX11 rfl dX11_move_75 (fun v44512 hv44512 ov44512 => ?_)
    obtain ⟨b44513, rfl, mb44513, gb44513⟩ := okV_r ov44512
    have gb44513 : tag b44513 = 23 := tg_of gb44513
    refine lv_aload_n hx hb dX11_move_78 rfl (lv_at hl 0 rfl) ?_
    refine t_get (C := RX11) (T := TX11) (N := 16) X hT m0 g0 rfl rfl 5 (by decide) qw_23 inlX11 rfl dX11_move_79 (fun v44514 hv44514 ov44514 => ?_)
    obtain ⟨b44515, rfl, mb44515, gb44515⟩ := okV_r ov44514
    have gb44515 : tag b44515 = 19 := tg_of gb44515
    refine t_cVv (n := 1) (C := RX2) (T := TX2) (N := 5) (As := [.ref b44515]) (rest := []) X hT (kt66_X2_keep l G tag L F hT.2.2.2 b44513 b44515 mb44513 gb44513 mb44515 gb44515) mb44513 gb44513 rfl rfl qw_1427 qw_1428 qw_1429 qw_44 qw_1430 ⟨rfl, by decide +kernel, by decide +kernel, by decide +kernel⟩ ⟨Nat.le_of_ble_eq_true rfl, Nat.le_of_ble_eq_true rfl⟩ hl rfl rfl (Nat.le_of_ble_eq_true rfl) dX11_move_82 ⟨Nat.le_of_ble_eq_true rfl, Nat.le_of_ble_eq_true rfl⟩ (fun F H locs hT hz44516 => ?_)
    have yz44516 := hz44516
    have hv44512 := (yz44516.1 _ 12 (Or.inr (by decide)) (Or.inr (by decide)) (Or.inr (by decide)) (Or.inr (by decide))).trans hv44512
    have hv44514 := (yz44516.1 _ 5 (Or.inr (by decide)) (Or.inr (by decide)) (Or.inr (by decide)) (Or.inr (by decide))).trans hv44514
    have hfr : (∀ b j : Nat, (tag b ≠ 19 ∨ j ≠ 0) → (tag b ≠ 19 ∨ j ≠ 1) → (tag b ≠ 23 ∨ j ≠ 2) → (tag b ≠ 23 ∨ j ≠ 3) → (tag b ≠ 26 ∨ j ≠ 13) → fld F b j = fld Fo b j) ∧ EF tag F Fo := ⟨fun b j n19_0 n19_1 n23_2 n23_3 n26_13 => (yz44516.1 b j n19_0 n19_1 n23_2 n23_3).trans (hfr.1 b j n19_0 n19_1 n23_2 n23_3 n26_13), fun b j hb => (yz44516.2 b j hb).trans (hfr.2 b j hb)⟩
    refine lv_aload_n hx hb dX11_move_85 rfl (lv_at hl 0 rfl) ?_
    refine t_get (C := RX11) (T := TX11) (N := 16) X hT m0 g0 rfl rfl 5 (by decide) qw_23 inlX11 rfl dX11_move_86 (fun v44517 hv44517 ov44517 => ?_)
    obtain rfl : v44517 = .ref b44515 := hv44517.symm.trans hv44514
    refine t_get (C := RX7) (T := TX7) (N := 7) X hT mb44515 gb44515 rfl rfl 5 (by decide) qw_886 inlX7 rfl dX11_move_89 (fun v44518 hv44518 ov44518 => ?_)
    obtain ⟨b44519, rfl, mb44519, gb44519⟩ := okV_r ov44518
    have gb44519 : tag b44519 = 7 := tg_of gb44519
    refine lv_iload_n hx hb dX11_move_92 rfl (lv_at hl 1 rfl) ?_
    refine lv_iload_n hx hb dX11_move_93 rfl (lv_at hl 2 rfl) ?_
    refine t_ist X hT mb44519 gb44519 rfl (by omega) (show (-2147483648) ≤ (p2 : Int32).toInt ∧ (p2 : Int32).toInt ≤ 2147483647 from (by omega)) dX11_move_94 (fun F H locs hT v44520 h1v44520 h2v44520 => ?_)
    have hv44512 := (h2v44520 _ _).trans hv44512
    have hv44514 := (h2v44520 _ _).trans hv44514
    have hv44518 := (h2v44520 _ _).trans hv44518
    have hfr : (∀ b j : Nat, (tag b ≠ 19 ∨ j ≠ 0) → (tag b ≠ 19 ∨ j ≠ 1) → (tag b ≠ 23 ∨ j ≠ 2) → (tag b ≠ 23 ∨ j ≠ 3) → (tag b ≠ 26 ∨ j ≠ 13) → fld F b j = fld Fo b j) ∧ EF tag F Fo := ⟨fun b j n19_0 n19_1 n23_2 n23_3 n26_13 => (h2v44520 b j).trans (hfr.1 b j n19_0 n19_1 n23_2 n23_3 n26_13), fun b j hb => (h1v44520 b j (Or.inl (ns_ne hb gb44519 (by decide)))).trans (hfr.2 b j hb)⟩
    refine lv_aload_n hx hb dX11_move_95 rfl (lv_at hl 0 rfl) ?_
    refine t_cVi (n := 0) (C := RX11) (T := TX11) (N := 16) (As := []) (rest := []) X hT (kt59_X11_yes l G tag L F hT.2.2.2 p0 m0 g0) m0 g0 rfl rfl qw_1460 qw_1461 qw_1462 qw_2 qw_1463 ⟨rfl, by decide +kernel, by decide +kernel, by decide +kernel⟩ ⟨Nat.le_of_ble_eq_true rfl, Nat.le_of_ble_eq_true rfl⟩ hl rfl rfl (Nat.le_of_ble_eq_true rfl) dX11_move_96 ⟨Nat.le_of_ble_eq_true rfl, Nat.le_of_ble_eq_true rfl⟩ (fun z44521 F H locs hT hz44521 => ?_)
    obtain ⟨hz44521, yz44521⟩ := hz44521
    have hv44512 := (yz44521.1 _ 12 (Or.inr (by decide))).trans hv44512
    have hv44514 := (yz44521.1 _ 5 (Or.inr (by decide))).trans hv44514
    have hv44518 := (yz44521.1 _ 5 (Or.inr (by decide))).trans hv44518
    have hfr : (∀ b j : Nat, (tag b ≠ 19 ∨ j ≠ 0) → (tag b ≠ 19 ∨ j ≠ 1) → (tag b ≠ 23 ∨ j ≠ 2) → (tag b ≠ 23 ∨ j ≠ 3) → (tag b ≠ 26 ∨ j ≠ 13) → fld F b j = fld Fo b j) ∧ EF tag F Fo := ⟨fun b j n19_0 n19_1 n23_2 n23_3 n26_13 => (yz44521.1 b j n26_13).trans (hfr.1 b j n19_0 n19_1 n23_2 n23_3 n26_13), fun b j hb => (yz44521.2 b j hb).trans (hfr.2 b j hb)⟩
    exact t_zret hQ X hT (nar_z (by omega)) (⟨(by omega), hfr⟩) (Nat.le_of_ble_eq_true rfl) (Nat.le_of_ble_eq_true rfl) dX11_move_99
  refine lv_aload_n hx hb dX11_move_0 rfl (lv_at hl 0 rfl) ?_
  refine lv_iload_n hx hb dX11_move_1 rfl (lv_at hl 1 rfl) ?_
  refine t_cVi (n := 1) (C := RX11) (T := TX11) (N := 16) (As := [.int p1]) (rest := []) X hT (kt86_X11_isHeir l G tag L F hT.2.2.2 p0 p1 m0 g0) m0 g0 rfl rfl qw_887 qw_888 qw_889 qw_2 qw_890 ⟨rfl, by decide +kernel, by decide +kernel, by decide +kernel⟩ ⟨Nat.le_of_ble_eq_true rfl, Nat.le_of_ble_eq_true rfl⟩ hl rfl rfl (Nat.le_of_ble_eq_true rfl) dX11_move_2 ⟨Nat.le_of_ble_eq_true rfl, Nat.le_of_ble_eq_true rfl⟩ (fun z44522 F9 H locs hT hz44522 => ?_)
  obtain ⟨fz44522, hz44522⟩ := hz44522
  rw [fz44522] at hT
  obtain ⟨hz44522, iz44522⟩ := hz44522
  refine lv_if_eq (tgt := 25) hx hb dX11_move_5 (by decide) (fun c44523 => ?_) (fun c44523 => ?_)
  · have w44524 := cv_eq (rfl : z44522.toInt = z44522.toInt) (by decide : (0 : Int32).toInt = 0) c44523
    exact K25  _ _ _ _  hT hfr  (lv_sub hl [0, 1, 2] rfl)
  · have w44525 := cv_ne (rfl : z44522.toInt = z44522.toInt) (by decide : (0 : Int32).toInt = 0) c44523
    have w44526 := (fun h => (iz44522 h)) (by omega)
    refine lv_aload_n hx hb dX11_move_8 rfl (lv_at hl 0 rfl) ?_
    refine lv_aload_n hx hb dX11_move_9 rfl (lv_at hl 0 rfl) ?_
    refine t_get (C := RX11) (T := TX11) (N := 16) X hT m0 g0 rfl rfl 3 (by decide) qw_18 inlX11 rfl dX11_move_10 (fun v44527 hv44527 ov44527 => ?_)
    obtain ⟨b44528, rfl, mb44528, gb44528⟩ := okV_r ov44527
    have gb44528 : tag b44528 = 18 := tg_of gb44528
    refine t_get (C := RX1) (T := TX1) (N := 20) X hT mb44528 gb44528 rfl rfl 15 (by decide) qw_885 inlX1 rfl dX11_move_13 (fun v44529 hv44529 ov44529 => ?_)
    obtain ⟨b44530, rfl, mb44530, gb44530⟩ := okV_r ov44529
    have gb44530 : tag b44530 = 6 := tg_of gb44530
    refine lv_iload_n hx hb dX11_move_16 rfl (lv_at hl 1 rfl) ?_
    refine t_ild X hT mb44530 gb44530 rfl (by omega) dX11_move_17 (fun z44531 vz44531 rz44531 => ?_)
    have rz44531 : 0 ≤ z44531.toInt ∧ z44531.toInt ≤ 3 := rz44531
    refine lv_iload_n hx hb dX11_move_18 rfl (lv_at hl 2 rfl) ?_
    refine t_cVi (n := 2) (C := RX11) (T := TX11) (N := 16) (As := [.int z44531, .int p2]) (rest := []) X hT (kt62_X11_isRoom l G tag L F hT.2.2.2 p0 z44531 p2 m0 g0) m0 g0 rfl rfl qw_827 qw_828 qw_829 qw_2 qw_830 ⟨rfl, by decide +kernel, by decide +kernel, by decide +kernel⟩ ⟨Nat.le_of_ble_eq_true rfl, Nat.le_of_ble_eq_true rfl⟩ hl rfl rfl (Nat.le_of_ble_eq_true rfl) dX11_move_19 ⟨Nat.le_of_ble_eq_true rfl, Nat.le_of_ble_eq_true rfl⟩ (fun z44532 F9 H locs hT hz44532 => ?_)
    obtain ⟨fz44532, hz44532⟩ := hz44532
    rw [fz44532] at hT
    obtain ⟨hz44532, iz44532⟩ := hz44532
    refine lv_if_ne (tgt := 31) hx hb dX11_move_22 (by decide) (fun c44533 => ?_) (fun c44533 => ?_)
    · have w44534 := cv_ne (rfl : z44532.toInt = z44532.toInt) (by decide : (0 : Int32).toInt = 0) c44533
      have w44535 := (fun h => (iz44532 h).1) (by omega)
      have w44536 := (fun h => (iz44532 h).2) (by omega)
      refine lv_aload_n hx hb dX11_move_31 rfl (lv_at hl 0 rfl) ?_
      refine t_get (C := RX11) (T := TX11) (N := 16) X hT m0 g0 rfl rfl 5 (by decide) qw_23 inlX11 rfl dX11_move_32 (fun v44537 hv44537 ov44537 => ?_)
      obtain ⟨b44538, rfl, mb44538, gb44538⟩ := okV_r ov44537
      have gb44538 : tag b44538 = 19 := tg_of gb44538
      refine t_get (C := RX7) (T := TX7) (N := 7) X hT mb44538 gb44538 rfl rfl 5 (by decide) qw_886 inlX7 rfl dX11_move_35 (fun v44539 hv44539 ov44539 => ?_)
      obtain ⟨b44540, rfl, mb44540, gb44540⟩ := okV_r ov44539
      have gb44540 : tag b44540 = 7 := tg_of gb44540
      refine lv_iload_n hx hb dX11_move_38 rfl (lv_at hl 1 rfl) ?_
      refine t_ild X hT mb44540 gb44540 rfl (by omega) dX11_move_39 (fun z44541 vz44541 rz44541 => ?_)
      have rz44541 : (-2147483648) ≤ z44541.toInt ∧ z44541.toInt ≤ 2147483647 := rz44541
      refine lv_iload_n hx hb dX11_move_40 rfl (lv_at hl 2 rfl) ?_
      refine lv_icmp_eq (tgt := 68) hx hb dX11_move_41 (by decide) (fun c44542 => ?_) (fun c44542 => ?_)
      · have w44543 := cv_eq (rfl : z44541.toInt = z44541.toInt) (rfl : p2.toInt = p2.toInt) c44542
        exact K68  _ _ _ _ (by omega) (by omega) hT hfr  (lv_sub hl [0, 1, 2] rfl)
      · have w44544 := cv_ne (rfl : z44541.toInt = z44541.toInt) (rfl : p2.toInt = p2.toInt) c44542
        refine lv_iload_n hx hb dX11_move_44 rfl (lv_at hl 2 rfl) ?_
        refine lv_if_le (tgt := 74) hx hb dX11_move_45 (by decide) (fun c44545 => ?_) (fun c44545 => ?_)
        · have w44546 := cv_le (rfl : p2.toInt = p2.toInt) (by decide : (0 : Int32).toInt = 0) c44545
          exact K74  _ _ _ _ (by omega) (by omega) hT hfr  (lv_sub hl [0, 1, 2] rfl)
        · have w44547 := cv_nle (rfl : p2.toInt = p2.toInt) (by decide : (0 : Int32).toInt = 0) c44545
          refine lv_aload_n hx hb dX11_move_48 rfl (lv_at hl 0 rfl) ?_
          refine t_get (C := RX11) (T := TX11) (N := 16) X hT m0 g0 rfl rfl 5 (by decide) qw_23 inlX11 rfl dX11_move_49 (fun v44548 hv44548 ov44548 => ?_)
          obtain rfl : v44548 = .ref b44538 := hv44548.symm.trans hv44537
          refine lv_aload_n hx hb dX11_move_52 rfl (lv_at hl 0 rfl) ?_
          refine t_get (C := RX11) (T := TX11) (N := 16) X hT m0 g0 rfl rfl 3 (by decide) qw_18 inlX11 rfl dX11_move_53 (fun v44549 hv44549 ov44549 => ?_)
          obtain rfl : v44549 = .ref b44528 := hv44549.symm.trans hv44527
          refine t_get (C := RX1) (T := TX1) (N := 20) X hT mb44528 gb44528 rfl rfl 15 (by decide) qw_885 inlX1 rfl dX11_move_56 (fun v44550 hv44550 ov44550 => ?_)
          obtain rfl : v44550 = .ref b44530 := hv44550.symm.trans hv44529
          refine lv_iload_n hx hb dX11_move_59 rfl (lv_at hl 1 rfl) ?_
          refine t_ild X hT mb44530 gb44530 rfl (by omega) dX11_move_60 (fun z44551 vz44551 rz44551 => ?_)
          obtain rfl : z44531 = z44551 := vz44531.symm.trans vz44551
          refine lv_iload_n hx hb dX11_move_61 rfl (lv_at hl 2 rfl) ?_
          refine t_cVi (n := 2) (C := RX7) (T := TX7) (N := 7) (As := [.int z44531, .int p2]) (rest := []) X hT (kt19_X7_isOpen l G tag L F hT.2.2.2 b44538 z44531 p2 mb44538 gb44538) mb44538 gb44538 rfl rfl qw_1458 qw_984 qw_985 qw_22 qw_986 ⟨rfl, by decide +kernel, by decide +kernel, by decide +kernel⟩ ⟨Nat.le_of_ble_eq_true rfl, Nat.le_of_ble_eq_true rfl⟩ hl rfl rfl (Nat.le_of_ble_eq_true rfl) dX11_move_62 ⟨Nat.le_of_ble_eq_true rfl, Nat.le_of_ble_eq_true rfl⟩ (fun z44552 F9 H locs hT hz44552 => ?_)
          obtain ⟨fz44552, hz44552⟩ := hz44552
          rw [fz44552] at hT
          refine lv_if_ne (tgt := 74) hx hb dX11_move_65 (by decide) (fun c44553 => ?_) (fun c44553 => ?_)
          · have w44554 := cv_ne (rfl : z44552.toInt = z44552.toInt) (by decide : (0 : Int32).toInt = 0) c44553
            exact K74  _ _ _ _ (by omega) (by omega) hT hfr  (lv_sub hl [0, 1, 2] rfl)
          · have w44555 := cv_eq (rfl : z44552.toInt = z44552.toInt) (by decide : (0 : Int32).toInt = 0) c44553
            exact K68  _ _ _ _ (by omega) (by omega) hT hfr  (lv_sub hl [0, 1, 2] rfl)
    · have w44556 := cv_eq (rfl : z44532.toInt = z44532.toInt) (by decide : (0 : Int32).toInt = 0) c44533
      exact K25  _ _ _ _  hT hfr  (lv_sub hl [0, 1, 2] rfl)
