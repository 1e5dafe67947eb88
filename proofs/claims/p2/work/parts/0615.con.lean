set_option maxHeartbeats 4000000 in
set_option maxRecDepth 100000 in
theorem kt402_X11_order (l : Launch) (G : KG) (tag : Nat → Nat) (L : List Nat) (Fo : Nat → va_E) (ho : okT G ttC tag L Fo) (p0 : Nat) (p1 : Int32) (p2 : Int32) (m0 : p0 ∈ L) (g0 : tag p0 = 26) : TMi l yX11_order cX11_order 4 (some .int) { frames := 4, cells := 0, slots := 0, locals := 89 } G ttC tag L Fo [.ref p0, .int p1, .int p2] (fun r F1 => ((-2147483648) ≤ r.toInt ∧ r.toInt ≤ 2147483647) ∧ ((∀ b j : Nat, (tag b ≠ 26 ∨ j ≠ 13) → fld F1 b j = fld Fo b j) ∧ EF tag F1 Fo)) := by
  refine t_bodyi (y := yX11_order) (cd := cX11_order) (mL := 4) (rt := (some .int)) (rm := { frames := 4, cells := 0, slots := 0, locals := 89 }) (av := [.ref p0, .int p1, .int p2]) (by decide) (Nat.le_of_ble_eq_true rfl) ho ?_
  intro p e s m args below meth c ls A Q hQ X hT hl
  have hx := X.1.1
  have hb := X.1.2.1
  have hl : lv_has ls 4 [(0, .ref p0), (1, .int p1), (2, .int p2)] := hl
  have rp1 := rg_all p1
  have rp2 := rg_all p2
  obtain ⟨F, hFo⟩ : ∃ F : Nat → va_E, F = Fo := ⟨_, rfl⟩
  rw [← hFo] at hT
  have hfr : (∀ b j : Nat, (tag b ≠ 26 ∨ j ≠ 13) → fld F b j = fld Fo b j) ∧ EF tag F Fo := by
    rw [hFo]
    exact ⟨by intros; rfl, fun _ _ _ => rfl⟩
  have K22 : ∀  (F : Nat → va_E) (H : Heap) (locs : List Loc) (ls : Array Slot), TH G ttC A s tag L F H locs → ((∀ b j : Nat, (tag b ≠ 26 ∨ j ≠ 13) → fld F b j = fld Fo b j) ∧ EF tag F Fo) → lv_has ls 4 [(0, .ref p0), (1, .int p1), (2, .int p2)] → W p l e { frames := 4, cells := 0, slots := 0, locals := 89 } s m args below meth c H locs 0 0 Q (F0 m 22 ls []) := by
    intro F H locs ls hT hfr hl
    refine lv_aload_n hx hb dX11_order_22 rfl (lv_at hl 0 rfl) ?_
    refine lv_iconst (v := 1) hx hb dX11_order_23 (by decide) ?_
    refine t_cVi (n := 1) (C := RX11) (T := TX11) (N := 16) (As := [.int 1]) (rest := []) X hT (kt357_X11_refuse l G tag L F hT.2.2.2 p0 1 m0 g0) m0 g0 rfl rfl qw_152 qw_153 qw_154 qw_2 qw_155 ⟨rfl, by decide +kernel, by decide +kernel, by decide +kernel⟩ ⟨Nat.le_of_ble_eq_true rfl, Nat.le_of_ble_eq_true rfl⟩ hl rfl rfl (Nat.le_of_ble_eq_true rfl) dX11_order_24 ⟨Nat.le_of_ble_eq_true rfl, Nat.le_of_ble_eq_true rfl⟩ (fun z126858 F H locs hT hz126858 => ?_)
    obtain ⟨hz126858, yz126858⟩ := hz126858
    have hfr : (∀ b j : Nat, (tag b ≠ 26 ∨ j ≠ 13) → fld F b j = fld Fo b j) ∧ EF tag F Fo := ⟨fun b j n26_13 => (yz126858.1 b j n26_13).trans (hfr.1 b j n26_13), fun b j hb => (yz126858.2 b j hb).trans (hfr.2 b j hb)⟩
    exact t_iret hQ X hT (⟨rg_all _, hfr⟩) (Nat.le_of_ble_eq_true rfl) (Nat.le_of_ble_eq_true rfl) dX11_order_27
  refine lv_aload_n hx hb dX11_order_0 rfl (lv_at hl 0 rfl) ?_
  refine lv_iload_n hx hb dX11_order_1 rfl (lv_at hl 2 rfl) ?_
  refine t_cVi (n := 1) (C := RX11) (T := TX11) (N := 16) (As := [.int p2]) (rest := []) X hT (kt384_X11_isWall l G tag L F hT.2.2.2 p0 p2 m0 g0) m0 g0 rfl rfl qw_1379 qw_1380 qw_1381 qw_2 qw_1382 ⟨rfl, by decide +kernel, by decide +kernel, by decide +kernel⟩ ⟨Nat.le_of_ble_eq_true rfl, Nat.le_of_ble_eq_true rfl⟩ hl rfl rfl (Nat.le_of_ble_eq_true rfl) dX11_order_2 ⟨Nat.le_of_ble_eq_true rfl, Nat.le_of_ble_eq_true rfl⟩ (fun z126859 F9 H locs hT hz126859 => ?_)
  obtain ⟨fz126859, hz126859⟩ := hz126859
  rw [fz126859] at hT
  obtain ⟨hz126859, iz126859⟩ := hz126859
  refine lv_if_eq (tgt := 22) hx hb dX11_order_5 (by decide) (fun c126860 => ?_) (fun c126860 => ?_)
  · have w126861 := cv_eq (rfl : z126859.toInt = z126859.toInt) (by decide : (0 : Int32).toInt = 0) c126860
    exact K22  _ _ _ _  hT hfr  (lv_sub hl [0, 1, 2] rfl)
  · have w126862 := cv_ne (rfl : z126859.toInt = z126859.toInt) (by decide : (0 : Int32).toInt = 0) c126860
    have w126863 := (fun h => (iz126859 h)) (by omega)
    refine lv_iload_n hx hb dX11_order_8 rfl (lv_at hl 1 rfl) ?_
    refine lv_if_lt (tgt := 22) hx hb dX11_order_9 (by decide) (fun c126864 => ?_) (fun c126864 => ?_)
    · have w126865 := cv_lt (rfl : p1.toInt = p1.toInt) (by decide : (0 : Int32).toInt = 0) c126864
      exact K22  _ _ _ _  hT hfr  (lv_sub hl [0, 1, 2] rfl)
    · have w126866 := cv_nlt (rfl : p1.toInt = p1.toInt) (by decide : (0 : Int32).toInt = 0) c126864
      refine lv_iload_n hx hb dX11_order_12 rfl (lv_at hl 1 rfl) ?_
      refine t_gets X hT X.2.2.2.1.2.1.2.2.1 qw_1378 dX11_order_13 ?_
      refine lv_bipush (v := 6) hx hb dX11_order_16 (by decide) ?_
      refine t_tild X hT X.2.2.2.1.2.1.2.2.1 (by decide) dX11_order_18 (fun z126867 ez126867 => ?_)
      have rz126867 : 1 ≤ z126867.toInt ∧ z126867.toInt ≤ 720 := by rw [ez126867]; exact gRows_r _
      refine lv_icmp_lt (tgt := 28) hx hb dX11_order_19 (by decide) (fun c126868 => ?_) (fun c126868 => ?_)
      · have w126869 := cv_lt (rfl : p1.toInt = p1.toInt) (rfl : z126867.toInt = z126867.toInt) c126868
        refine lv_aload_n hx hb dX11_order_28 rfl (lv_at hl 0 rfl) ?_
        refine t_get (C := RX11) (T := TX11) (N := 16) X hT m0 g0 rfl rfl 11 (by decide) qw_41 inlX11 rfl dX11_order_29 (fun v126870 hv126870 ov126870 => ?_)
        obtain ⟨b126871, rfl, mb126871, gb126871⟩ := okV_r ov126870
        have gb126871 : tag b126871 = 22 := tg_of gb126871
        refine lv_aload_n hx hb dX11_order_32 rfl (lv_at hl 0 rfl) ?_
        refine t_get (C := RX11) (T := TX11) (N := 16) X hT m0 g0 rfl rfl 3 (by decide) qw_18 inlX11 rfl dX11_order_33 (fun v126872 hv126872 ov126872 => ?_)
        obtain ⟨b126873, rfl, mb126873, gb126873⟩ := okV_r ov126872
        have gb126873 : tag b126873 = 18 := tg_of gb126873
        refine lv_aload_n hx hb dX11_order_36 rfl (lv_at hl 0 rfl) ?_
        refine t_get (C := RX11) (T := TX11) (N := 16) X hT m0 g0 rfl rfl 5 (by decide) qw_23 inlX11 rfl dX11_order_37 (fun v126874 hv126874 ov126874 => ?_)
        obtain ⟨b126875, rfl, mb126875, gb126875⟩ := okV_r ov126874
        have gb126875 : tag b126875 = 19 := tg_of gb126875
        refine t_get (C := RX7) (T := TX7) (N := 7) X hT mb126875 gb126875 rfl rfl 0 (by decide) qw_1225 inlX7 rfl dX11_order_40 (fun v126876 hv126876 ov126876 => ?_)
        obtain ⟨z126877, rfl, rz126877⟩ := okV_i ov126876
        refine lv_iload_n hx hb dX11_order_43 rfl (lv_at hl 1 rfl) ?_
        refine lv_iload_n hx hb dX11_order_44 rfl (lv_at hl 2 rfl) ?_
        refine t_cVi (n := 4) (C := RX9) (T := TX9) (N := 6) (As := [.ref b126873, .int z126877, .int p1, .int p2]) (rest := []) X hT (kt401_X9_wallAt l G tag L F hT.2.2.2 b126871 b126873 z126877 p1 p2 mb126871 gb126871 mb126873 gb126873 (by omega)) mb126871 gb126871 rfl rfl qw_1384 qw_1385 qw_1386 qw_40 qw_1387 ⟨rfl, by decide +kernel, by decide +kernel, by decide +kernel⟩ ⟨Nat.le_of_ble_eq_true rfl, Nat.le_of_ble_eq_true rfl⟩ hl rfl rfl (Nat.le_of_ble_eq_true rfl) dX11_order_45 ⟨Nat.le_of_ble_eq_true rfl, Nat.le_of_ble_eq_true rfl⟩ (fun z126878 F H locs hT hz126878 => ?_)
        obtain ⟨hz126878, yz126878⟩ := hz126878
        have hv126870 := (yz126878.1 _ 11 ).trans hv126870
        have hv126872 := (yz126878.1 _ 3 ).trans hv126872
        have hv126874 := (yz126878.1 _ 5 ).trans hv126874
        have hv126876 := (yz126878.1 _ 0 ).trans hv126876
        have hfr : (∀ b j : Nat, (tag b ≠ 26 ∨ j ≠ 13) → fld F b j = fld Fo b j) ∧ EF tag F Fo := ⟨fun b j n26_13 => (yz126878.1 b j ).trans (hfr.1 b j n26_13), fun b j hb => (yz126878.2 b j hb).trans (hfr.2 b j hb)⟩
        refine lv_istore_n (lv' := [(3, .int z126878), (0, .ref p0), (1, .int p1), (2, .int p2)]) hx hb dX11_order_48 rfl hl (by decide) rfl (fun ls hl => ?_)
        refine lv_iload_n hx hb dX11_order_49 rfl (lv_at hl 0 rfl) ?_
        refine lv_bipush (v := (-2)) hx hb dX11_order_50 (by decide) ?_
        refine lv_icmp_ne (tgt := 63) hx hb dX11_order_52 (by decide) (fun c126879 => ?_) (fun c126879 => ?_)
        · have w126880 := cv_ne (rfl : z126878.toInt = z126878.toInt) (by decide : ((-2) : Int32).toInt = (-2)) c126879
          refine lv_aload_n hx hb dX11_order_63 rfl (lv_at hl 1 rfl) ?_
          refine lv_iload_n hx hb dX11_order_64 rfl (lv_at hl 0 rfl) ?_
          refine t_cVi (n := 1) (C := RX11) (T := TX11) (N := 16) (As := [.int z126878]) (rest := []) X hT (kt350_X11_answer l G tag L F hT.2.2.2 p0 z126878 m0 g0) m0 g0 rfl rfl qw_463 qw_464 qw_465 qw_2 qw_466 ⟨rfl, by decide +kernel, by decide +kernel, by decide +kernel⟩ ⟨Nat.le_of_ble_eq_true rfl, Nat.le_of_ble_eq_true rfl⟩ hl rfl rfl (Nat.le_of_ble_eq_true rfl) dX11_order_65 ⟨Nat.le_of_ble_eq_true rfl, Nat.le_of_ble_eq_true rfl⟩ (fun z126881 F H locs hT hz126881 => ?_)
          obtain ⟨hz126881, yz126881⟩ := hz126881
          have hv126870 := (yz126881.1 _ 11 (Or.inr (by decide))).trans hv126870
          have hv126872 := (yz126881.1 _ 3 (Or.inr (by decide))).trans hv126872
          have hv126874 := (yz126881.1 _ 5 (Or.inr (by decide))).trans hv126874
          have hv126876 := (yz126881.1 _ 0 (Or.inr (by decide))).trans hv126876
          have hfr : (∀ b j : Nat, (tag b ≠ 26 ∨ j ≠ 13) → fld F b j = fld Fo b j) ∧ EF tag F Fo := ⟨fun b j n26_13 => (yz126881.1 b j n26_13).trans (hfr.1 b j n26_13), fun b j hb => (yz126881.2 b j hb).trans (hfr.2 b j hb)⟩
          exact t_iret hQ X hT (⟨rg_all _, hfr⟩) (Nat.le_of_ble_eq_true rfl) (Nat.le_of_ble_eq_true rfl) dX11_order_68
        · have w126882 := cv_eq (rfl : z126878.toInt = z126878.toInt) (by decide : ((-2) : Int32).toInt = (-2)) c126879
          refine lv_aload_n hx hb dX11_order_55 rfl (lv_at hl 1 rfl) ?_
          refine lv_iconst (v := 1) hx hb dX11_order_56 (by decide) ?_
          refine t_cVi (n := 1) (C := RX11) (T := TX11) (N := 16) (As := [.int 1]) (rest := []) X hT (kt357_X11_refuse l G tag L F hT.2.2.2 p0 1 m0 g0) m0 g0 rfl rfl qw_152 qw_153 qw_154 qw_2 qw_155 ⟨rfl, by decide +kernel, by decide +kernel, by decide +kernel⟩ ⟨Nat.le_of_ble_eq_true rfl, Nat.le_of_ble_eq_true rfl⟩ hl rfl rfl (Nat.le_of_ble_eq_true rfl) dX11_order_57 ⟨Nat.le_of_ble_eq_true rfl, Nat.le_of_ble_eq_true rfl⟩ (fun z126883 F H locs hT hz126883 => ?_)
          obtain ⟨hz126883, yz126883⟩ := hz126883
          have hv126870 := (yz126883.1 _ 11 (Or.inr (by decide))).trans hv126870
          have hv126872 := (yz126883.1 _ 3 (Or.inr (by decide))).trans hv126872
          have hv126874 := (yz126883.1 _ 5 (Or.inr (by decide))).trans hv126874
          have hv126876 := (yz126883.1 _ 0 (Or.inr (by decide))).trans hv126876
          have hfr : (∀ b j : Nat, (tag b ≠ 26 ∨ j ≠ 13) → fld F b j = fld Fo b j) ∧ EF tag F Fo := ⟨fun b j n26_13 => (yz126883.1 b j n26_13).trans (hfr.1 b j n26_13), fun b j hb => (yz126883.2 b j hb).trans (hfr.2 b j hb)⟩
          refine lv_goto (tgt := 68) hx hb dX11_order_60 (by decide) ?_
          exact t_iret hQ X hT (⟨rg_all _, hfr⟩) (Nat.le_of_ble_eq_true rfl) (Nat.le_of_ble_eq_true rfl) dX11_order_68
      · have w126884 := cv_nlt (rfl : p1.toInt = p1.toInt) (rfl : z126867.toInt = z126867.toInt) c126868
        exact K22  _ _ _ _  hT hfr  (lv_sub hl [0, 1, 2] rfl)
set_option maxHeartbeats 4000000 in
set_option maxRecDepth 100000 in
theorem kt403_X11_orders (l : Launch) (G : KG) (tag : Nat → Nat) (L : List Nat) (Fo : Nat → va_E) (ho : okT G ttC tag L Fo) (p0 : Nat) (m0 : p0 ∈ L) (g0 : tag p0 = 26) : TMi l yX11_orders cX11_orders 1 (some .int) { frames := 4, cells := 0, slots := 0, locals := 86 } G ttC tag L Fo [.ref p0] (fun r F1 => ((-2147483648) ≤ r.toInt ∧ r.toInt ≤ 2147483647) ∧ ((∀ b j : Nat, (tag b ≠ 22 ∨ j ≠ 2) → (tag b ≠ 26 ∨ j ≠ 13) → fld F1 b j = fld Fo b j) ∧ EF tag F1 Fo)) := by
  refine t_bodyi (y := yX11_orders) (cd := cX11_orders) (mL := 1) (rt := (some .int)) (rm := { frames := 4, cells := 0, slots := 0, locals := 86 }) (av := [.ref p0]) (by decide) (Nat.le_of_ble_eq_true rfl) ho ?_
  intro p e s m args below meth c ls A Q hQ X hT hl
  have hx := X.1.1
  have hb := X.1.2.1
  have hl : lv_has ls 1 [(0, .ref p0)] := hl
  obtain ⟨F, hFo⟩ : ∃ F : Nat → va_E, F = Fo := ⟨_, rfl⟩
  rw [← hFo] at hT
  have hfr : (∀ b j : Nat, (tag b ≠ 22 ∨ j ≠ 2) → (tag b ≠ 26 ∨ j ≠ 13) → fld F b j = fld Fo b j) ∧ EF tag F Fo := by
    rw [hFo]
    exact ⟨by intros; rfl, fun _ _ _ => rfl⟩
  refine lv_aload_n hx hb dX11_orders_0 rfl (lv_at hl 0 rfl) ?_
  refine t_get (C := RX11) (T := TX11) (N := 16) X hT m0 g0 rfl rfl 2 (by decide) qw_150 inlX11 rfl dX11_orders_1 (fun v127094 hv127094 ov127094 => ?_)
  obtain ⟨z127095, rfl, rz127095⟩ := okV_i ov127094
  refine lv_if_ne (tgt := 13) hx hb dX11_orders_4 (by decide) (fun c127096 => ?_) (fun c127096 => ?_)
  · have w127097 := cv_ne (rfl : z127095.toInt = z127095.toInt) (by decide : (0 : Int32).toInt = 0) c127096
    refine lv_aload_n hx hb dX11_orders_13 rfl (lv_at hl 0 rfl) ?_
    refine t_get (C := RX11) (T := TX11) (N := 16) X hT m0 g0 rfl rfl 11 (by decide) qw_41 inlX11 rfl dX11_orders_14 (fun v127098 hv127098 ov127098 => ?_)
    obtain ⟨b127099, rfl, mb127099, gb127099⟩ := okV_r ov127098
    have gb127099 : tag b127099 = 22 := tg_of gb127099
    refine lv_aload_n hx hb dX11_orders_17 rfl (lv_at hl 0 rfl) ?_
    refine t_get (C := RX11) (T := TX11) (N := 16) X hT m0 g0 rfl rfl 3 (by decide) qw_18 inlX11 rfl dX11_orders_18 (fun v127100 hv127100 ov127100 => ?_)
    obtain ⟨b127101, rfl, mb127101, gb127101⟩ := okV_r ov127100
    have gb127101 : tag b127101 = 18 := tg_of gb127101
    refine lv_aload_n hx hb dX11_orders_21 rfl (lv_at hl 0 rfl) ?_
    refine t_get (C := RX11) (T := TX11) (N := 16) X hT m0 g0 rfl rfl 5 (by decide) qw_23 inlX11 rfl dX11_orders_22 (fun v127102 hv127102 ov127102 => ?_)
    obtain ⟨b127103, rfl, mb127103, gb127103⟩ := okV_r ov127102
    have gb127103 : tag b127103 = 19 := tg_of gb127103
    refine t_get (C := RX7) (T := TX7) (N := 7) X hT mb127103 gb127103 rfl rfl 0 (by decide) qw_1225 inlX7 rfl dX11_orders_25 (fun v127104 hv127104 ov127104 => ?_)
    obtain ⟨z127105, rfl, rz127105⟩ := okV_i ov127104
    refine t_cVv (n := 2) (C := RX9) (T := TX9) (N := 6) (As := [.ref b127101, .int z127105]) (rest := []) X hT (kt393_X9_lookAtAll l G tag L F hT.2.2.2 b127099 b127101 z127105 mb127099 gb127099 mb127101 gb127101) mb127099 gb127099 rfl rfl qw_1333 qw_1334 qw_1335 qw_40 qw_1336 ⟨rfl, by decide +kernel, by decide +kernel, by decide +kernel⟩ ⟨Nat.le_of_ble_eq_true rfl, Nat.le_of_ble_eq_true rfl⟩ hl rfl rfl (Nat.le_of_ble_eq_true rfl) dX11_orders_28 ⟨Nat.le_of_ble_eq_true rfl, Nat.le_of_ble_eq_true rfl⟩ (fun F H locs hT hz127106 => ?_)
    have yz127106 := hz127106
    have hv127094 := (yz127106.1 _ 2 (Or.inl (by rw [g0]; decide))).trans hv127094
    have hv127098 := (yz127106.1 _ 11 (Or.inr (by decide))).trans hv127098
    have hv127100 := (yz127106.1 _ 3 (Or.inr (by decide))).trans hv127100
    have hv127102 := (yz127106.1 _ 5 (Or.inr (by decide))).trans hv127102
    have hv127104 := (yz127106.1 _ 0 (Or.inr (by decide))).trans hv127104
    have hfr : (∀ b j : Nat, (tag b ≠ 22 ∨ j ≠ 2) → (tag b ≠ 26 ∨ j ≠ 13) → fld F b j = fld Fo b j) ∧ EF tag F Fo := ⟨fun b j n22_2 n26_13 => (yz127106.1 b j n22_2).trans (hfr.1 b j n22_2 n26_13), fun b j hb => (yz127106.2 b j hb).trans (hfr.2 b j hb)⟩
    refine lv_aload_n hx hb dX11_orders_31 rfl (lv_at hl 0 rfl) ?_
    refine lv_aload_n hx hb dX11_orders_32 rfl (lv_at hl 0 rfl) ?_
    refine t_get (C := RX11) (T := TX11) (N := 16) X hT m0 g0 rfl rfl 11 (by decide) qw_41 inlX11 rfl dX11_orders_33 (fun v127107 hv127107 ov127107 => ?_)
    obtain rfl : v127107 = .ref b127099 := hv127107.symm.trans hv127098
    refine t_get (C := RX9) (T := TX9) (N := 6) X hT mb127099 gb127099 rfl rfl 2 (by decide) qw_1332 inlX9 rfl dX11_orders_36 (fun v127108 hv127108 ov127108 => ?_)
    obtain ⟨z127109, rfl, rz127109⟩ := okV_i ov127108
    refine t_cVi (n := 1) (C := RX11) (T := TX11) (N := 16) (As := [.int z127109]) (rest := []) X hT (kt350_X11_answer l G tag L F hT.2.2.2 p0 z127109 m0 g0) m0 g0 rfl rfl qw_463 qw_464 qw_465 qw_2 qw_466 ⟨rfl, by decide +kernel, by decide +kernel, by decide +kernel⟩ ⟨Nat.le_of_ble_eq_true rfl, Nat.le_of_ble_eq_true rfl⟩ hl rfl rfl (Nat.le_of_ble_eq_true rfl) dX11_orders_39 ⟨Nat.le_of_ble_eq_true rfl, Nat.le_of_ble_eq_true rfl⟩ (fun z127110 F H locs hT hz127110 => ?_)
    obtain ⟨hz127110, yz127110⟩ := hz127110
    have hv127094 := (yz127110.1 _ 2 (Or.inr (by decide))).trans hv127094
    have hv127098 := (yz127110.1 _ 11 (Or.inr (by decide))).trans hv127098
    have hv127100 := (yz127110.1 _ 3 (Or.inr (by decide))).trans hv127100
    have hv127102 := (yz127110.1 _ 5 (Or.inr (by decide))).trans hv127102
    have hv127104 := (yz127110.1 _ 0 (Or.inr (by decide))).trans hv127104
    have hv127108 := (yz127110.1 _ 2 (Or.inr (by decide))).trans hv127108
    have hfr : (∀ b j : Nat, (tag b ≠ 22 ∨ j ≠ 2) → (tag b ≠ 26 ∨ j ≠ 13) → fld F b j = fld Fo b j) ∧ EF tag F Fo := ⟨fun b j n22_2 n26_13 => (yz127110.1 b j n26_13).trans (hfr.1 b j n22_2 n26_13), fun b j hb => (yz127110.2 b j hb).trans (hfr.2 b j hb)⟩
    exact t_iret hQ X hT (⟨rg_all _, hfr⟩) (Nat.le_of_ble_eq_true rfl) (Nat.le_of_ble_eq_true rfl) dX11_orders_42
  · have w127111 := cv_eq (rfl : z127095.toInt = z127095.toInt) (by decide : (0 : Int32).toInt = 0) c127096
    refine lv_aload_n hx hb dX11_orders_7 rfl (lv_at hl 0 rfl) ?_
    refine lv_iconst (v := 1) hx hb dX11_orders_8 (by decide) ?_
    refine t_cVi (n := 1) (C := RX11) (T := TX11) (N := 16) (As := [.int 1]) (rest := []) X hT (kt357_X11_refuse l G tag L F hT.2.2.2 p0 1 m0 g0) m0 g0 rfl rfl qw_152 qw_153 qw_154 qw_2 qw_155 ⟨rfl, by decide +kernel, by decide +kernel, by decide +kernel⟩ ⟨Nat.le_of_ble_eq_true rfl, Nat.le_of_ble_eq_true rfl⟩ hl rfl rfl (Nat.le_of_ble_eq_true rfl) dX11_orders_9 ⟨Nat.le_of_ble_eq_true rfl, Nat.le_of_ble_eq_true rfl⟩ (fun z127112 F H locs hT hz127112 => ?_)
    obtain ⟨hz127112, yz127112⟩ := hz127112
    have hv127094 := (yz127112.1 _ 2 (Or.inr (by decide))).trans hv127094
    have hfr : (∀ b j : Nat, (tag b ≠ 22 ∨ j ≠ 2) → (tag b ≠ 26 ∨ j ≠ 13) → fld F b j = fld Fo b j) ∧ EF tag F Fo := ⟨fun b j n22_2 n26_13 => (yz127112.1 b j n26_13).trans (hfr.1 b j n22_2 n26_13), fun b j hb => (yz127112.2 b j hb).trans (hfr.2 b j hb)⟩
    exact t_iret hQ X hT (⟨rg_all _, hfr⟩) (Nat.le_of_ble_eq_true rfl) (Nat.le_of_ble_eq_true rfl) dX11_orders_12
set_option maxHeartbeats 4000000 in
set_option maxRecDepth 100000 in
theorem kt404_X11_room (l : Launch) (G : KG) (tag : Nat → Nat) (L : List Nat) (Fo : Nat → va_E) (ho : okT G ttC tag L Fo) (p0 : Nat) (p1 : Int32) (m0 : p0 ∈ L) (g0 : tag p0 = 26) : TMi l yX11_room cX11_room 5 (some .int) { frames := 4, cells := 0, slots := 0, locals := 108 } G ttC tag L Fo [.ref p0, .int p1] (fun r F1 => ((-2147483648) ≤ r.toInt ∧ r.toInt ≤ 2147483647) ∧ ((∀ b j : Nat, (tag b ≠ 19 ∨ j ≠ 0) → (tag b ≠ 19 ∨ j ≠ 1) → (tag b ≠ 26 ∨ j ≠ 13) → fld F1 b j = fld Fo b j) ∧ EF tag F1 Fo)) := by
  refine t_bodyi (y := yX11_room) (cd := cX11_room) (mL := 5) (rt := (some .int)) (rm := { frames := 4, cells := 0, slots := 0, locals := 108 }) (av := [.ref p0, .int p1]) (by decide) (Nat.le_of_ble_eq_true rfl) ho ?_
  intro p e s m args below meth c ls A Q hQ X hT hl
  have hx := X.1.1
  have hb := X.1.2.1
  have hl : lv_has ls 5 [(0, .ref p0), (1, .int p1)] := hl
  have rp1 := rg_all p1
  obtain ⟨F, hFo⟩ : ∃ F : Nat → va_E, F = Fo := ⟨_, rfl⟩
  rw [← hFo] at hT
  have hfr : (∀ b j : Nat, (tag b ≠ 19 ∨ j ≠ 0) → (tag b ≠ 19 ∨ j ≠ 1) → (tag b ≠ 26 ∨ j ≠ 13) → fld F b j = fld Fo b j) ∧ EF tag F Fo := by
    rw [hFo]
    exact ⟨by intros; rfl, fun _ _ _ => rfl⟩
  have K29 : ∀ (n : Nat) (z128484 : Int32) (z128485 : Int32) (F : Nat → va_E) (H : Heap) (locs : List Loc) (ls : Array Slot), (6 - z128485.toInt < (n : Int)) → (0 ≤ z128485.toInt ∧ z128485.toInt ≤ 6) → (0 ≤ p1.toInt ∧ p1.toInt ≤ 3) → TH G ttC A s tag L F H locs → ((∀ b j : Nat, (tag b ≠ 19 ∨ j ≠ 0) → (tag b ≠ 19 ∨ j ≠ 1) → (tag b ≠ 26 ∨ j ≠ 13) → fld F b j = fld Fo b j) ∧ EF tag F Fo) → lv_has ls 5 [(0, .ref p0), (1, .int p1), (2, .int z128484), (3, .int z128485)] → W p l e { frames := 4, cells := 0, slots := 0, locals := 108 } s m args below meth c H locs 0 0 Q (F0 m 29 ls []) := by
    intro n
    induction n with
    | zero =>
      intro z128484 z128485 F H locs ls hn rz128485 r9s128483 hT hfr hl
      have rz128484 := rg_all z128484
      exfalso
      omega
    | succ n ih29 =>
      intro z128484 z128485 F H locs ls hn rz128485 r9s128483 hT hfr hl
      have rz128484 := rg_all z128484
      have K67 : ∀ (z128487 : Int32) (F : Nat → va_E) (H : Heap) (locs : List Loc) (ls : Array Slot), ((-2) ≤ z128487.toInt ∧ z128487.toInt ≤ 900) → (0 ≤ z128485.toInt ∧ z128485.toInt ≤ 5) → TH G ttC A s tag L F H locs → ((∀ b j : Nat, (tag b ≠ 19 ∨ j ≠ 0) → (tag b ≠ 19 ∨ j ≠ 1) → (tag b ≠ 26 ∨ j ≠ 13) → fld F b j = fld Fo b j) ∧ EF tag F Fo) → lv_has ls 5 [(0, .ref p0), (1, .int p1), (2, .int z128484), (3, .int z128485)] → W p l e { frames := 4, cells := 0, slots := 0, locals := 108 } s m args below meth c H locs 0 0 Q (F0 m 67 ls [.int z128487]) := by
        intro z128487 F H locs ls rz128487 r9s128486 hT hfr hl
        refine lv_istore (lv' := [(4, .int z128487), (0, .ref p0), (1, .int p1), (2, .int z128484), (3, .int z128485)]) hx hb dX11_room_67 hl (by decide) rfl (fun ls hl => ?_)
        refine lv_iload hx hb dX11_room_69 (lv_at hl 0 rfl) ?_
        refine lv_bipush (v := (-2)) hx hb dX11_room_71 (by decide) ?_
        refine lv_icmp_ne (tgt := 82) hx hb dX11_room_73 (by decide) (fun c128488 => ?_) (fun c128488 => ?_)
        · have w128489 := cv_ne (rfl : z128487.toInt = z128487.toInt) (by decide : ((-2) : Int32).toInt = (-2)) c128488
          refine lv_aload_n hx hb dX11_room_82 rfl (lv_at hl 1 rfl) ?_
          refine t_get (C := RX11) (T := TX11) (N := 16) X hT m0 g0 rfl rfl 7 (by decide) qw_25 inlX11 rfl dX11_room_83 (fun v128490 hv128490 ov128490 => ?_)
          obtain ⟨b128491, rfl, mb128491, gb128491⟩ := okV_r ov128490
          have gb128491 : tag b128491 = 19 := tg_of gb128491
          refine lv_iload_n hx hb dX11_room_86 rfl (lv_at hl 2 rfl) ?_
          refine lv_iconst (v := 0) hx hb dX11_room_87 (by decide) ?_
          refine lv_iload hx hb dX11_room_88 (lv_at hl 0 rfl) ?_
          refine lv_bipush (v := 100) hx hb dX11_room_90 (by decide) ?_
          refine lv_idiv hx hb dX11_room_92 (by decide) ?_
          refine lv_topi (fun z128492 ez128492 => ?_)
          have rz128492 := rg_all z128492
          refine lv_iload hx hb dX11_room_93 (lv_at hl 0 rfl) ?_
          refine lv_bipush (v := 100) hx hb dX11_room_95 (by decide) ?_
          refine lv_irem hx hb dX11_room_97 (by decide) ?_
          refine lv_topi (fun z128493 ez128493 => ?_)
          have rz128493 := rg_all z128493
          refine lv_iconst (v := 0) hx hb dX11_room_98 (by decide) ?_
          refine lv_aload_n hx hb dX11_room_99 rfl (lv_at hl 1 rfl) ?_
          refine t_get (C := RX11) (T := TX11) (N := 16) X hT m0 g0 rfl rfl 7 (by decide) qw_25 inlX11 rfl dX11_room_100 (fun v128494 hv128494 ov128494 => ?_)
          obtain rfl : v128494 = .ref b128491 := hv128494.symm.trans hv128490
          refine t_get (C := RX7) (T := TX7) (N := 7) X hT mb128491 gb128491 rfl rfl 0 (by decide) qw_1225 inlX7 rfl dX11_room_103 (fun v128495 hv128495 ov128495 => ?_)
          obtain ⟨z128496, rfl, rz128496⟩ := okV_i ov128495
          refine t_cVv (n := 6) (C := RX7) (T := TX7) (N := 7) (As := [.int p1, .int 0, .int z128492, .int z128493, .int 0, .int z128496]) (rest := []) X hT (kt311_X7_addSkin l G tag L F hT.2.2.2 b128491 p1 0 z128492 z128493 0 z128496 mb128491 gb128491 (by omega)) mb128491 gb128491 rfl rfl qw_1226 qw_419 qw_420 qw_22 qw_421 ⟨rfl, by decide +kernel, by decide +kernel, by decide +kernel⟩ ⟨Nat.le_of_ble_eq_true rfl, Nat.le_of_ble_eq_true rfl⟩ hl rfl rfl (Nat.le_of_ble_eq_true rfl) dX11_room_106 ⟨Nat.le_of_ble_eq_true rfl, Nat.le_of_ble_eq_true rfl⟩ (fun F H locs hT hz128497 => ?_)
          have yz128497 := hz128497
          have hv128490 := (yz128497.1 _ 7 ).trans hv128490
          have hv128495 := (yz128497.1 _ 0 ).trans hv128495
          have hfr : (∀ b j : Nat, (tag b ≠ 19 ∨ j ≠ 0) → (tag b ≠ 19 ∨ j ≠ 1) → (tag b ≠ 26 ∨ j ≠ 13) → fld F b j = fld Fo b j) ∧ EF tag F Fo := ⟨fun b j n19_0 n19_1 n26_13 => (yz128497.1 b j ).trans (hfr.1 b j n19_0 n19_1 n26_13), fun b j hb => (yz128497.2 b j hb).trans (hfr.2 b j hb)⟩
          obtain ⟨z128498, ez128498⟩ : ∃ y : Int32, y = z128484 + 1 := ⟨_, rfl⟩
          have rz128498 := rg_all z128498
          refine lv_iinc (v := z128498) (lv' := [(2, .int z128498), (4, .int z128487), (0, .ref p0), (1, .int p1), (3, .int z128485)]) hx hb dX11_room_109 hl (k := 3) rfl (by rw [ez128498]; rfl) (by decide) rfl (fun ls hl => ?_)
          obtain ⟨z128499, ez128499⟩ : ∃ y : Int32, y = z128485 + 1 := ⟨_, rfl⟩
          have hz128499 : z128499.toInt = z128485.toInt + 1 := ar_add ez128499 rfl (by decide : (1 : Int32).toInt = 1) (by omega) (by omega)
          refine lv_iinc (v := z128499) (lv' := [(3, .int z128499), (2, .int z128498), (4, .int z128487), (0, .ref p0), (1, .int p1)]) hx hb dX11_room_112 hl (k := 4) rfl (by rw [ez128499]; rfl) (by decide) rfl (fun ls hl => ?_)
          refine lv_goto (tgt := 29) hx hb dX11_room_115 (by decide) ?_
          exact ih29 z128498 z128499 _ _ _ _ (by omega) (by omega) (by omega) hT hfr  (lv_sub hl [3, 4, 1, 0] rfl)
        · have w128500 := cv_eq (rfl : z128487.toInt = z128487.toInt) (by decide : ((-2) : Int32).toInt = (-2)) c128488
          refine lv_aload_n hx hb dX11_room_76 rfl (lv_at hl 1 rfl) ?_
          refine lv_iload_n hx hb dX11_room_77 rfl (lv_at hl 3 rfl) ?_
          refine t_cVi (n := 1) (C := RX11) (T := TX11) (N := 16) (As := [.int z128484]) (rest := []) X hT (kt350_X11_answer l G tag L F hT.2.2.2 p0 z128484 m0 g0) m0 g0 rfl rfl qw_463 qw_464 qw_465 qw_2 qw_466 ⟨rfl, by decide +kernel, by decide +kernel, by decide +kernel⟩ ⟨Nat.le_of_ble_eq_true rfl, Nat.le_of_ble_eq_true rfl⟩ hl rfl rfl (Nat.le_of_ble_eq_true rfl) dX11_room_78 ⟨Nat.le_of_ble_eq_true rfl, Nat.le_of_ble_eq_true rfl⟩ (fun z128501 F H locs hT hz128501 => ?_)
          obtain ⟨hz128501, yz128501⟩ := hz128501
          have hfr : (∀ b j : Nat, (tag b ≠ 19 ∨ j ≠ 0) → (tag b ≠ 19 ∨ j ≠ 1) → (tag b ≠ 26 ∨ j ≠ 13) → fld F b j = fld Fo b j) ∧ EF tag F Fo := ⟨fun b j n19_0 n19_1 n26_13 => (yz128501.1 b j n26_13).trans (hfr.1 b j n19_0 n19_1 n26_13), fun b j hb => (yz128501.2 b j hb).trans (hfr.2 b j hb)⟩
          exact t_iret hQ X hT (⟨rg_all _, hfr⟩) (Nat.le_of_ble_eq_true rfl) (Nat.le_of_ble_eq_true rfl) dX11_room_81
      refine lv_iload_n hx hb dX11_room_29 rfl (lv_at hl 3 rfl) ?_
      refine lv_bipush (v := 6) hx hb dX11_room_30 (by decide) ?_
      refine lv_icmp_ge (tgt := 118) hx hb dX11_room_32 (by decide) (fun c128502 => ?_) (fun c128502 => ?_)
      · have w128503 := cv_le (by decide : (6 : Int32).toInt = 6) (rfl : z128485.toInt = z128485.toInt) c128502
        refine lv_aload_n hx hb dX11_room_118 rfl (lv_at hl 0 rfl) ?_
        refine lv_iload_n hx hb dX11_room_119 rfl (lv_at hl 2 rfl) ?_
        refine t_cVi (n := 1) (C := RX11) (T := TX11) (N := 16) (As := [.int z128484]) (rest := []) X hT (kt350_X11_answer l G tag L F hT.2.2.2 p0 z128484 m0 g0) m0 g0 rfl rfl qw_463 qw_464 qw_465 qw_2 qw_466 ⟨rfl, by decide +kernel, by decide +kernel, by decide +kernel⟩ ⟨Nat.le_of_ble_eq_true rfl, Nat.le_of_ble_eq_true rfl⟩ hl rfl rfl (Nat.le_of_ble_eq_true rfl) dX11_room_120 ⟨Nat.le_of_ble_eq_true rfl, Nat.le_of_ble_eq_true rfl⟩ (fun z128504 F H locs hT hz128504 => ?_)
        obtain ⟨hz128504, yz128504⟩ := hz128504
        have hfr : (∀ b j : Nat, (tag b ≠ 19 ∨ j ≠ 0) → (tag b ≠ 19 ∨ j ≠ 1) → (tag b ≠ 26 ∨ j ≠ 13) → fld F b j = fld Fo b j) ∧ EF tag F Fo := ⟨fun b j n19_0 n19_1 n26_13 => (yz128504.1 b j n26_13).trans (hfr.1 b j n19_0 n19_1 n26_13), fun b j hb => (yz128504.2 b j hb).trans (hfr.2 b j hb)⟩
        exact t_iret hQ X hT (⟨rg_all _, hfr⟩) (Nat.le_of_ble_eq_true rfl) (Nat.le_of_ble_eq_true rfl) dX11_room_123
      · have w128505 := cv_nle (by decide : (6 : Int32).toInt = 6) (rfl : z128485.toInt = z128485.toInt) c128502
        refine lv_aload_n hx hb dX11_room_35 rfl (lv_at hl 0 rfl) ?_
        refine t_get (C := RX11) (T := TX11) (N := 16) X hT m0 g0 rfl rfl 3 (by decide) qw_18 inlX11 rfl dX11_room_36 (fun v128506 hv128506 ov128506 => ?_)
        obtain ⟨b128507, rfl, mb128507, gb128507⟩ := okV_r ov128506
        have gb128507 : tag b128507 = 18 := tg_of gb128507
        refine lv_aload_n hx hb dX11_room_39 rfl (lv_at hl 0 rfl) ?_
        refine t_get (C := RX11) (T := TX11) (N := 16) X hT m0 g0 rfl rfl 7 (by decide) qw_25 inlX11 rfl dX11_room_40 (fun v128508 hv128508 ov128508 => ?_)
        obtain ⟨b128509, rfl, mb128509, gb128509⟩ := okV_r ov128508
        have gb128509 : tag b128509 = 19 := tg_of gb128509
        refine lv_iload_n hx hb dX11_room_43 rfl (lv_at hl 1 rfl) ?_
        refine t_cSi (n := 3) (As := [.ref b128507, .ref b128509, .int p1]) (rest := []) X hT (kt325_X6_isFit l G tag L F hT.2.2.2 b128507 b128509 p1 mb128507 gb128507 mb128509 gb128509 (by omega)) qw_904 qw_403 qw_380 qw_404 ⟨by decide +kernel, by decide +kernel, by decide +kernel⟩ ⟨Nat.le_of_ble_eq_true rfl, Nat.le_of_ble_eq_true rfl⟩ hl rfl rfl (Nat.le_of_ble_eq_true rfl) dX11_room_44 ⟨Nat.le_of_ble_eq_true rfl, Nat.le_of_ble_eq_true rfl⟩ (fun z128510 F9 H locs hT hz128510 => ?_)
        obtain ⟨fz128510, hz128510⟩ := hz128510
        rw [fz128510] at hT
        refine lv_if_eq (tgt := 65) hx hb dX11_room_47 (by decide) (fun c128511 => ?_) (fun c128511 => ?_)
        · have w128512 := cv_eq (rfl : z128510.toInt = z128510.toInt) (by decide : (0 : Int32).toInt = 0) c128511
          refine lv_bipush (v := (-2)) hx hb dX11_room_65 (by decide) ?_
          exact K67 (-2) _ _ _ _ (by decide) (by omega) hT hfr  (lv_sub hl [0, 1, 2, 3] rfl)
        · have w128513 := cv_ne (rfl : z128510.toInt = z128510.toInt) (by decide : (0 : Int32).toInt = 0) c128511
          refine lv_aload_n hx hb dX11_room_50 rfl (lv_at hl 0 rfl) ?_
          refine t_get (C := RX11) (T := TX11) (N := 16) X hT m0 g0 rfl rfl 3 (by decide) qw_18 inlX11 rfl dX11_room_51 (fun v128514 hv128514 ov128514 => ?_)
          obtain rfl : v128514 = .ref b128507 := hv128514.symm.trans hv128506
          refine lv_aload_n hx hb dX11_room_54 rfl (lv_at hl 0 rfl) ?_
          refine t_get (C := RX11) (T := TX11) (N := 16) X hT m0 g0 rfl rfl 7 (by decide) qw_25 inlX11 rfl dX11_room_55 (fun v128515 hv128515 ov128515 => ?_)
          obtain rfl : v128515 = .ref b128509 := hv128515.symm.trans hv128508
          refine lv_iload_n hx hb dX11_room_58 rfl (lv_at hl 1 rfl) ?_
          refine t_cSi (n := 3) (As := [.ref b128507, .ref b128509, .int p1]) (rest := []) X hT (kt338_X6_lawDoor l G tag L F hT.2.2.2 b128507 b128509 p1 mb128507 gb128507 mb128509 gb128509 (by omega)) qw_913 qw_914 qw_380 qw_915 ⟨by decide +kernel, by decide +kernel, by decide +kernel⟩ ⟨Nat.le_of_ble_eq_true rfl, Nat.le_of_ble_eq_true rfl⟩ hl rfl rfl (Nat.le_of_ble_eq_true rfl) dX11_room_59 ⟨Nat.le_of_ble_eq_true rfl, Nat.le_of_ble_eq_true rfl⟩ (fun z128516 F9 H locs hT hz128516 => ?_)
          obtain ⟨fz128516, hz128516⟩ := hz128516
          rw [fz128516] at hT
          refine lv_goto (tgt := 67) hx hb dX11_room_62 (by decide) ?_
          exact K67 z128516 _ _ _ _ (by omega) (by omega) hT hfr  (lv_sub hl [0, 1, 2, 3] rfl)
  refine lv_aload_n hx hb dX11_room_0 rfl (lv_at hl 0 rfl) ?_
  refine lv_iload_n hx hb dX11_room_1 rfl (lv_at hl 1 rfl) ?_
  refine t_cVi (n := 1) (C := RX11) (T := TX11) (N := 16) (As := [.int p1]) (rest := []) X hT (kt355_X11_isHouse l G tag L F hT.2.2.2 p0 p1 m0 g0) m0 g0 rfl rfl qw_770 qw_771 qw_772 qw_2 qw_773 ⟨rfl, by decide +kernel, by decide +kernel, by decide +kernel⟩ ⟨Nat.le_of_ble_eq_true rfl, Nat.le_of_ble_eq_true rfl⟩ hl rfl rfl (Nat.le_of_ble_eq_true rfl) dX11_room_2 ⟨Nat.le_of_ble_eq_true rfl, Nat.le_of_ble_eq_true rfl⟩ (fun z128517 F9 H locs hT hz128517 => ?_)
  obtain ⟨fz128517, hz128517⟩ := hz128517
  rw [fz128517] at hT
  obtain ⟨hz128517, iz128517⟩ := hz128517
  refine lv_if_ne (tgt := 14) hx hb dX11_room_5 (by decide) (fun c128518 => ?_) (fun c128518 => ?_)
  · have w128519 := cv_ne (rfl : z128517.toInt = z128517.toInt) (by decide : (0 : Int32).toInt = 0) c128518
    have w128520 := (fun h => (iz128517 h)) (by omega)
    refine lv_aload_n hx hb dX11_room_14 rfl (lv_at hl 0 rfl) ?_
    refine t_get (C := RX11) (T := TX11) (N := 16) X hT m0 g0 rfl rfl 7 (by decide) qw_25 inlX11 rfl dX11_room_15 (fun v128521 hv128521 ov128521 => ?_)
    obtain ⟨b128522, rfl, mb128522, gb128522⟩ := okV_r ov128521
    have gb128522 : tag b128522 = 19 := tg_of gb128522
    refine lv_aload_n hx hb dX11_room_18 rfl (lv_at hl 0 rfl) ?_
    refine t_get (C := RX11) (T := TX11) (N := 16) X hT m0 g0 rfl rfl 5 (by decide) qw_23 inlX11 rfl dX11_room_19 (fun v128523 hv128523 ov128523 => ?_)
    obtain ⟨b128524, rfl, mb128524, gb128524⟩ := okV_r ov128523
    have gb128524 : tag b128524 = 19 := tg_of gb128524
    refine t_cVv (n := 1) (C := RX7) (T := TX7) (N := 7) (As := [.ref b128524]) (rest := []) X hT (kt343_X7_copyFrom l G tag L F hT.2.2.2 b128522 b128524 mb128522 gb128522 mb128524 gb128524) mb128522 gb128522 rfl rfl qw_449 qw_450 qw_451 qw_22 qw_452 ⟨rfl, by decide +kernel, by decide +kernel, by decide +kernel⟩ ⟨Nat.le_of_ble_eq_true rfl, Nat.le_of_ble_eq_true rfl⟩ hl rfl rfl (Nat.le_of_ble_eq_true rfl) dX11_room_22 ⟨Nat.le_of_ble_eq_true rfl, Nat.le_of_ble_eq_true rfl⟩ (fun F H locs hT hz128525 => ?_)
    have yz128525 := hz128525
    have hv128521 := (yz128525.1 _ 7 (Or.inr (by decide)) (Or.inr (by decide))).trans hv128521
    have hv128523 := (yz128525.1 _ 5 (Or.inr (by decide)) (Or.inr (by decide))).trans hv128523
    have hfr : (∀ b j : Nat, (tag b ≠ 19 ∨ j ≠ 0) → (tag b ≠ 19 ∨ j ≠ 1) → (tag b ≠ 26 ∨ j ≠ 13) → fld F b j = fld Fo b j) ∧ EF tag F Fo := ⟨fun b j n19_0 n19_1 n26_13 => (yz128525.1 b j n19_0 n19_1).trans (hfr.1 b j n19_0 n19_1 n26_13), fun b j hb => (yz128525.2 b j hb).trans (hfr.2 b j hb)⟩
    refine lv_iconst (v := 0) hx hb dX11_room_25 (by decide) ?_
    refine lv_istore_n (lv' := [(2, .int 0), (0, .ref p0), (1, .int p1)]) hx hb dX11_room_26 rfl hl (by decide) rfl (fun ls hl => ?_)
    refine lv_iconst (v := 0) hx hb dX11_room_27 (by decide) ?_
    refine lv_istore_n (lv' := [(3, .int 0), (2, .int 0), (0, .ref p0), (1, .int p1)]) hx hb dX11_room_28 rfl hl (by decide) rfl (fun ls hl => ?_)
    have kk128526 : (0 : Int32).toInt = 0 := by decide
    have kk128527 : (0 : Int32).toInt = 0 := by decide
    exact K29 7 0 0 _ _ _ _ (by omega) (by decide) (by omega) hT hfr  (lv_sub hl [2, 3, 1, 0] rfl)
  · have w128528 := cv_eq (rfl : z128517.toInt = z128517.toInt) (by decide : (0 : Int32).toInt = 0) c128518
    refine lv_aload_n hx hb dX11_room_8 rfl (lv_at hl 0 rfl) ?_
    refine lv_iconst (v := 1) hx hb dX11_room_9 (by decide) ?_
    refine t_cVi (n := 1) (C := RX11) (T := TX11) (N := 16) (As := [.int 1]) (rest := []) X hT (kt357_X11_refuse l G tag L F hT.2.2.2 p0 1 m0 g0) m0 g0 rfl rfl qw_152 qw_153 qw_154 qw_2 qw_155 ⟨rfl, by decide +kernel, by decide +kernel, by decide +kernel⟩ ⟨Nat.le_of_ble_eq_true rfl, Nat.le_of_ble_eq_true rfl⟩ hl rfl rfl (Nat.le_of_ble_eq_true rfl) dX11_room_10 ⟨Nat.le_of_ble_eq_true rfl, Nat.le_of_ble_eq_true rfl⟩ (fun z128529 F H locs hT hz128529 => ?_)
    obtain ⟨hz128529, yz128529⟩ := hz128529
    have hfr : (∀ b j : Nat, (tag b ≠ 19 ∨ j ≠ 0) → (tag b ≠ 19 ∨ j ≠ 1) → (tag b ≠ 26 ∨ j ≠ 13) → fld F b j = fld Fo b j) ∧ EF tag F Fo := ⟨fun b j n19_0 n19_1 n26_13 => (yz128529.1 b j n26_13).trans (hfr.1 b j n19_0 n19_1 n26_13), fun b j hb => (yz128529.2 b j hb).trans (hfr.2 b j hb)⟩
    exact t_iret hQ X hT (⟨rg_all _, hfr⟩) (Nat.le_of_ble_eq_true rfl) (Nat.le_of_ble_eq_true rfl) dX11_room_13
set_option maxHeartbeats 4000000 in
set_option maxRecDepth 100000 in
theorem kt405_X11_round (l : Launch) (G : KG) (tag : Nat → Nat) (L : List Nat) (Fo : Nat → va_E) (ho : okT G ttC tag L Fo) (p0 : Nat) (p1 : Int32) (p2 : Int32) (m0 : p0 ∈ L) (g0 : tag p0 = 26) : TMi l yX11_round cX11_round 3 (some .int) { frames := 3, cells := 0, slots := 0, locals := 68 } G ttC tag L Fo [.ref p0, .int p1, .int p2] (fun r F1 => ((-2147483648) ≤ r.toInt ∧ r.toInt ≤ 2147483647) ∧ ((∀ b j : Nat, (tag b ≠ 26 ∨ j ≠ 13) → fld F1 b j = fld Fo b j) ∧ EF tag F1 Fo)) := by
  refine t_bodyi (y := yX11_round) (cd := cX11_round) (mL := 3) (rt := (some .int)) (rm := { frames := 3, cells := 0, slots := 0, locals := 68 }) (av := [.ref p0, .int p1, .int p2]) (by decide) (Nat.le_of_ble_eq_true rfl) ho ?_
  intro p e s m args below meth c ls A Q hQ X hT hl
  have hx := X.1.1
  have hb := X.1.2.1
  have hl : lv_has ls 3 [(0, .ref p0), (1, .int p1), (2, .int p2)] := hl
  have rp1 := rg_all p1
  have rp2 := rg_all p2
  obtain ⟨F, hFo⟩ : ∃ F : Nat → va_E, F = Fo := ⟨_, rfl⟩
  rw [← hFo] at hT
  have hfr : (∀ b j : Nat, (tag b ≠ 26 ∨ j ≠ 13) → fld F b j = fld Fo b j) ∧ EF tag F Fo := by
    rw [hFo]
    exact ⟨by intros; rfl, fun _ _ _ => rfl⟩
  have K14 : ∀  (F : Nat → va_E) (H : Heap) (locs : List Loc) (ls : Array Slot), TH G ttC A s tag L F H locs → ((∀ b j : Nat, (tag b ≠ 26 ∨ j ≠ 13) → fld F b j = fld Fo b j) ∧ EF tag F Fo) → lv_has ls 3 [(0, .ref p0), (1, .int p1), (2, .int p2)] → W p l e { frames := 3, cells := 0, slots := 0, locals := 68 } s m args below meth c H locs 0 0 Q (F0 m 14 ls []) := by
    intro F H locs ls hT hfr hl
    refine lv_aload_n hx hb dX11_round_14 rfl (lv_at hl 0 rfl) ?_
    refine lv_iconst (v := 1) hx hb dX11_round_15 (by decide) ?_
    refine t_cVi (n := 1) (C := RX11) (T := TX11) (N := 16) (As := [.int 1]) (rest := []) X hT (kt357_X11_refuse l G tag L F hT.2.2.2 p0 1 m0 g0) m0 g0 rfl rfl qw_152 qw_153 qw_154 qw_2 qw_155 ⟨rfl, by decide +kernel, by decide +kernel, by decide +kernel⟩ ⟨Nat.le_of_ble_eq_true rfl, Nat.le_of_ble_eq_true rfl⟩ hl rfl rfl (Nat.le_of_ble_eq_true rfl) dX11_round_16 ⟨Nat.le_of_ble_eq_true rfl, Nat.le_of_ble_eq_true rfl⟩ (fun z128695 F H locs hT hz128695 => ?_)
    obtain ⟨hz128695, yz128695⟩ := hz128695
    have hfr : (∀ b j : Nat, (tag b ≠ 26 ∨ j ≠ 13) → fld F b j = fld Fo b j) ∧ EF tag F Fo := ⟨fun b j n26_13 => (yz128695.1 b j n26_13).trans (hfr.1 b j n26_13), fun b j hb => (yz128695.2 b j hb).trans (hfr.2 b j hb)⟩
    exact t_iret hQ X hT (⟨rg_all _, hfr⟩) (Nat.le_of_ble_eq_true rfl) (Nat.le_of_ble_eq_true rfl) dX11_round_19
  refine lv_aload_n hx hb dX11_round_0 rfl (lv_at hl 0 rfl) ?_
  refine lv_iload_n hx hb dX11_round_1 rfl (lv_at hl 1 rfl) ?_
  refine lv_iload_n hx hb dX11_round_2 rfl (lv_at hl 2 rfl) ?_
  refine t_cVi (n := 2) (C := RX11) (T := TX11) (N := 16) (As := [.int p1, .int p2]) (rest := []) X hT (kt364_X11_isSkin l G tag L F hT.2.2.2 p0 p1 p2 m0 g0) m0 g0 rfl rfl qw_823 qw_824 qw_825 qw_2 qw_826 ⟨rfl, by decide +kernel, by decide +kernel, by decide +kernel⟩ ⟨Nat.le_of_ble_eq_true rfl, Nat.le_of_ble_eq_true rfl⟩ hl rfl rfl (Nat.le_of_ble_eq_true rfl) dX11_round_3 ⟨Nat.le_of_ble_eq_true rfl, Nat.le_of_ble_eq_true rfl⟩ (fun z128696 F9 H locs hT hz128696 => ?_)
  obtain ⟨fz128696, hz128696⟩ := hz128696
  rw [fz128696] at hT
  obtain ⟨hz128696, iz128696⟩ := hz128696
  refine lv_if_eq (tgt := 14) hx hb dX11_round_6 (by decide) (fun c128697 => ?_) (fun c128697 => ?_)
  · have w128698 := cv_eq (rfl : z128696.toInt = z128696.toInt) (by decide : (0 : Int32).toInt = 0) c128697
    exact K14  _ _ _ _  hT hfr  (lv_sub hl [0, 1, 2] rfl)
  · have w128699 := cv_ne (rfl : z128696.toInt = z128696.toInt) (by decide : (0 : Int32).toInt = 0) c128697
    have w128700 := (fun h => (iz128696 h).1) (by omega)
    have w128701 := (fun h => (iz128696 h).2) (by omega)
    refine lv_iload_n hx hb dX11_round_9 rfl (lv_at hl 2 rfl) ?_
    refine lv_iconst (v := 2) hx hb dX11_round_10 (by decide) ?_
    refine lv_icmp_ge (tgt := 20) hx hb dX11_round_11 (by decide) (fun c128702 => ?_) (fun c128702 => ?_)
    · have w128703 := cv_le (by decide : (2 : Int32).toInt = 2) (rfl : p2.toInt = p2.toInt) c128702
      refine lv_aload_n hx hb dX11_round_20 rfl (lv_at hl 0 rfl) ?_
      refine lv_aload_n hx hb dX11_round_21 rfl (lv_at hl 0 rfl) ?_
      refine t_get (C := RX11) (T := TX11) (N := 16) X hT m0 g0 rfl rfl 5 (by decide) qw_23 inlX11 rfl dX11_round_22 (fun v128704 hv128704 ov128704 => ?_)
      obtain ⟨b128705, rfl, mb128705, gb128705⟩ := okV_r ov128704
      have gb128705 : tag b128705 = 19 := tg_of gb128705
      refine lv_iload_n hx hb dX11_round_25 rfl (lv_at hl 1 rfl) ?_
      refine lv_iload_n hx hb dX11_round_26 rfl (lv_at hl 2 rfl) ?_
      refine t_cVi (n := 2) (C := RX7) (T := TX7) (N := 7) (As := [.int p1, .int p2]) (rest := [.ref p0]) X hT (kt319_X7_roundIn l G tag L F hT.2.2.2 b128705 p1 p2 mb128705 gb128705) mb128705 gb128705 rfl rfl qw_1083 qw_989 qw_990 qw_22 qw_991 ⟨rfl, by decide +kernel, by decide +kernel, by decide +kernel⟩ ⟨Nat.le_of_ble_eq_true rfl, Nat.le_of_ble_eq_true rfl⟩ hl rfl rfl (Nat.le_of_ble_eq_true rfl) dX11_round_27 ⟨Nat.le_of_ble_eq_true rfl, Nat.le_of_ble_eq_true rfl⟩ (fun z128706 F9 H locs hT hz128706 => ?_)
      obtain ⟨fz128706, hz128706⟩ := hz128706
      rw [fz128706] at hT
      refine t_cVi (n := 1) (C := RX11) (T := TX11) (N := 16) (As := [.int z128706]) (rest := []) X hT (kt350_X11_answer l G tag L F hT.2.2.2 p0 z128706 m0 g0) m0 g0 rfl rfl qw_463 qw_464 qw_465 qw_2 qw_466 ⟨rfl, by decide +kernel, by decide +kernel, by decide +kernel⟩ ⟨Nat.le_of_ble_eq_true rfl, Nat.le_of_ble_eq_true rfl⟩ hl rfl rfl (Nat.le_of_ble_eq_true rfl) dX11_round_30 ⟨Nat.le_of_ble_eq_true rfl, Nat.le_of_ble_eq_true rfl⟩ (fun z128707 F H locs hT hz128707 => ?_)
      obtain ⟨hz128707, yz128707⟩ := hz128707
      have hv128704 := (yz128707.1 _ 5 (Or.inr (by decide))).trans hv128704
      have hfr : (∀ b j : Nat, (tag b ≠ 26 ∨ j ≠ 13) → fld F b j = fld Fo b j) ∧ EF tag F Fo := ⟨fun b j n26_13 => (yz128707.1 b j n26_13).trans (hfr.1 b j n26_13), fun b j hb => (yz128707.2 b j hb).trans (hfr.2 b j hb)⟩
      exact t_iret hQ X hT (⟨rg_all _, hfr⟩) (Nat.le_of_ble_eq_true rfl) (Nat.le_of_ble_eq_true rfl) dX11_round_33
    · have w128708 := cv_nle (by decide : (2 : Int32).toInt = 2) (rfl : p2.toInt = p2.toInt) c128702
      exact K14  _ _ _ _  hT hfr  (lv_sub hl [0, 1, 2] rfl)
set_option maxHeartbeats 4000000 in
set_option maxRecDepth 100000 in
theorem kt406_X11_seed (l : Launch) (G : KG) (tag : Nat → Nat) (L : List Nat) (Fo : Nat → va_E) (ho : okT G ttC tag L Fo) (p0 : Nat) (p1 : Int32) (m0 : p0 ∈ L) (g0 : tag p0 = 26) : TMi l yX11_seed cX11_seed 2 (some .boolean) { frames := 1, cells := 0, slots := 0, locals := 21 } G ttC tag L Fo [.ref p0, .int p1] (fun r F1 => (0 ≤ r.toInt ∧ r.toInt ≤ 1) ∧ ((∀ b j : Nat, (tag b ≠ 19 ∨ j ≠ 1) → (tag b ≠ 26 ∨ j ≠ 13) → fld F1 b j = fld Fo b j) ∧ EF tag F1 Fo)) := by
  refine t_bodyi (y := yX11_seed) (cd := cX11_seed) (mL := 2) (rt := (some .boolean)) (rm := { frames := 1, cells := 0, slots := 0, locals := 21 }) (av := [.ref p0, .int p1]) (by decide) (Nat.le_of_ble_eq_true rfl) ho ?_
  intro p e s m args below meth c ls A Q hQ X hT hl
  have hx := X.1.1
  have hb := X.1.2.1
  have hl : lv_has ls 2 [(0, .ref p0), (1, .int p1)] := hl
  have rp1 := rg_all p1
  obtain ⟨F, hFo⟩ : ∃ F : Nat → va_E, F = Fo := ⟨_, rfl⟩
  rw [← hFo] at hT
  have hfr : (∀ b j : Nat, (tag b ≠ 19 ∨ j ≠ 1) → (tag b ≠ 26 ∨ j ≠ 13) → fld F b j = fld Fo b j) ∧ EF tag F Fo := by
    rw [hFo]
    exact ⟨by intros; rfl, fun _ _ _ => rfl⟩
  have K24 : ∀ (z128907 : Int32) (F : Nat → va_E) (H : Heap) (locs : List Loc) (ls : Array Slot), (1 ≤ z128907.toInt ∧ z128907.toInt ≤ 1) → TH G ttC A s tag L F H locs → ((∀ b j : Nat, (tag b ≠ 19 ∨ j ≠ 1) → (tag b ≠ 26 ∨ j ≠ 13) → fld F b j = fld Fo b j) ∧ EF tag F Fo) → fld F p0 2 = .int z128907 → lv_has ls 2 [(0, .ref p0), (1, .int p1)] → W p l e { frames := 1, cells := 0, slots := 0, locals := 21 } s m args below meth c H locs 0 0 Q (F0 m 24 ls []) := by
    intro z128907 F H locs ls rz128907 hT hfr qz128907 hl
    refine lv_aload_n hx hb dX11_seed_24 rfl (lv_at hl 0 rfl) ?_
    refine lv_iconst (v := 2) hx hb dX11_seed_25 (by decide) ?_
    refine t_cVi (n := 1) (C := RX11) (T := TX11) (N := 16) (As := [.int 2]) (rest := []) X hT (kt352_X11_no l G tag L F hT.2.2.2 p0 2 m0 g0) m0 g0 rfl rfl qw_1454 qw_1455 qw_1456 qw_2 qw_1457 ⟨rfl, by decide +kernel, by decide +kernel, by decide +kernel⟩ ⟨Nat.le_of_ble_eq_true rfl, Nat.le_of_ble_eq_true rfl⟩ hl rfl rfl (Nat.le_of_ble_eq_true rfl) dX11_seed_26 ⟨Nat.le_of_ble_eq_true rfl, Nat.le_of_ble_eq_true rfl⟩ (fun z128908 F H locs hT hz128908 => ?_)
    obtain ⟨hz128908, yz128908⟩ := hz128908
    have qz128907 := (yz128908.1 _ 2 (Or.inr (by decide))).trans qz128907
    have hfr : (∀ b j : Nat, (tag b ≠ 19 ∨ j ≠ 1) → (tag b ≠ 26 ∨ j ≠ 13) → fld F b j = fld Fo b j) ∧ EF tag F Fo := ⟨fun b j n19_1 n26_13 => (yz128908.1 b j n26_13).trans (hfr.1 b j n19_1 n26_13), fun b j hb => (yz128908.2 b j hb).trans (hfr.2 b j hb)⟩
    exact t_zret hQ X hT (nar_z (by omega)) (⟨(by omega), hfr⟩) (Nat.le_of_ble_eq_true rfl) (Nat.le_of_ble_eq_true rfl) dX11_seed_29
  refine lv_aload_n hx hb dX11_seed_0 rfl (lv_at hl 0 rfl) ?_
  refine t_get (C := RX11) (T := TX11) (N := 16) X hT m0 g0 rfl rfl 2 (by decide) qw_150 inlX11 rfl dX11_seed_1 (fun v128909 hv128909 ov128909 => ?_)
  obtain ⟨z128910, rfl, rz128910⟩ := okV_i ov128909
  refine lv_if_ne (tgt := 13) hx hb dX11_seed_4 (by decide) (fun c128911 => ?_) (fun c128911 => ?_)
  · have w128912 := cv_ne (rfl : z128910.toInt = z128910.toInt) (by decide : (0 : Int32).toInt = 0) c128911
    refine lv_iload_n hx hb dX11_seed_13 rfl (lv_at hl 1 rfl) ?_
    refine lv_if_lt (tgt := 24) hx hb dX11_seed_14 (by decide) (fun c128913 => ?_) (fun c128913 => ?_)
    · have w128914 := cv_lt (rfl : p1.toInt = p1.toInt) (by decide : (0 : Int32).toInt = 0) c128913
      exact K24 z128910 _ _ _ _ (by omega) hT hfr hv128909 (lv_sub hl [0, 1] rfl)
    · have w128915 := cv_nlt (rfl : p1.toInt = p1.toInt) (by decide : (0 : Int32).toInt = 0) c128913
      refine lv_iload_n hx hb dX11_seed_17 rfl (lv_at hl 1 rfl) ?_
      refine m_ldcw X qw_1281 dX11_seed_18 ?_
      refine lv_icmp_lt (tgt := 30) hx hb dX11_seed_21 (by decide) (fun c128916 => ?_) (fun c128916 => ?_)
      · have w128917 := cv_lt (rfl : p1.toInt = p1.toInt) (by decide : (65537 : Int32).toInt = 65537) c128916
        refine lv_aload_n hx hb dX11_seed_30 rfl (lv_at hl 0 rfl) ?_
        refine t_get (C := RX11) (T := TX11) (N := 16) X hT m0 g0 rfl rfl 5 (by decide) qw_23 inlX11 rfl dX11_seed_31 (fun v128918 hv128918 ov128918 => ?_)
        obtain ⟨b128919, rfl, mb128919, gb128919⟩ := okV_r ov128918
        have gb128919 : tag b128919 = 19 := tg_of gb128919
        refine lv_iload_n hx hb dX11_seed_34 rfl (lv_at hl 1 rfl) ?_
        refine t_put (C := RX7) (T := TX7) (N := 7) (v := .int p1) X hT mb128919 gb128919 rfl tyX7 tyX7_ok nmX7 rfl 1 (by decide) qw_1282 inlX7 rfl (by first | rfl | decide) (by first | rfl | decide) rfl (⟨_, rfl, (show (-2147483648) ≤ (p1 : Int32).toInt from (by omega)), (show (p1 : Int32).toInt ≤ 2147483647 from (by omega))⟩) dX11_seed_35 (fun F H locs hT v128920 h1v128920 h2v128920 => ?_)
        have hv128909 := (h1v128920 _ _ (Or.inr (by decide))).trans hv128909
        have hv128918 := (h1v128920 _ _ (Or.inr (by decide))).trans hv128918
        have hfr : (∀ b j : Nat, (tag b ≠ 19 ∨ j ≠ 1) → (tag b ≠ 26 ∨ j ≠ 13) → fld F b j = fld Fo b j) ∧ EF tag F Fo := ⟨fun b j n19_1 n26_13 => (h1v128920 b j (fr_ne gb128919 n19_1)).trans (hfr.1 b j n19_1 n26_13), fun b j hb => (h2v128920 b j).trans (hfr.2 b j hb)⟩
        refine lv_aload_n hx hb dX11_seed_38 rfl (lv_at hl 0 rfl) ?_
        refine t_cVi (n := 0) (C := RX11) (T := TX11) (N := 16) (As := []) (rest := []) X hT (kt353_X11_yes l G tag L F hT.2.2.2 p0 m0 g0) m0 g0 rfl rfl qw_1460 qw_1461 qw_1462 qw_2 qw_1463 ⟨rfl, by decide +kernel, by decide +kernel, by decide +kernel⟩ ⟨Nat.le_of_ble_eq_true rfl, Nat.le_of_ble_eq_true rfl⟩ hl rfl rfl (Nat.le_of_ble_eq_true rfl) dX11_seed_39 ⟨Nat.le_of_ble_eq_true rfl, Nat.le_of_ble_eq_true rfl⟩ (fun z128921 F H locs hT hz128921 => ?_)
        obtain ⟨hz128921, yz128921⟩ := hz128921
        have hv128909 := (yz128921.1 _ 2 (Or.inr (by decide))).trans hv128909
        have hv128918 := (yz128921.1 _ 5 (Or.inr (by decide))).trans hv128918
        have v128920 := (yz128921.1 _ 1 (Or.inr (by decide))).trans v128920
        have hfr : (∀ b j : Nat, (tag b ≠ 19 ∨ j ≠ 1) → (tag b ≠ 26 ∨ j ≠ 13) → fld F b j = fld Fo b j) ∧ EF tag F Fo := ⟨fun b j n19_1 n26_13 => (yz128921.1 b j n26_13).trans (hfr.1 b j n19_1 n26_13), fun b j hb => (yz128921.2 b j hb).trans (hfr.2 b j hb)⟩
        exact t_zret hQ X hT (nar_z (by omega)) (⟨(by omega), hfr⟩) (Nat.le_of_ble_eq_true rfl) (Nat.le_of_ble_eq_true rfl) dX11_seed_42
      · have w128922 := cv_nlt (rfl : p1.toInt = p1.toInt) (by decide : (65537 : Int32).toInt = 65537) c128916
        exact K24 z128910 _ _ _ _ (by omega) hT hfr hv128909 (lv_sub hl [0, 1] rfl)
  · have w128923 := cv_eq (rfl : z128910.toInt = z128910.toInt) (by decide : (0 : Int32).toInt = 0) c128911
    refine lv_aload_n hx hb dX11_seed_7 rfl (lv_at hl 0 rfl) ?_
    refine lv_iconst (v := 1) hx hb dX11_seed_8 (by decide) ?_
    refine t_cVi (n := 1) (C := RX11) (T := TX11) (N := 16) (As := [.int 1]) (rest := []) X hT (kt352_X11_no l G tag L F hT.2.2.2 p0 1 m0 g0) m0 g0 rfl rfl qw_1454 qw_1455 qw_1456 qw_2 qw_1457 ⟨rfl, by decide +kernel, by decide +kernel, by decide +kernel⟩ ⟨Nat.le_of_ble_eq_true rfl, Nat.le_of_ble_eq_true rfl⟩ hl rfl rfl (Nat.le_of_ble_eq_true rfl) dX11_seed_9 ⟨Nat.le_of_ble_eq_true rfl, Nat.le_of_ble_eq_true rfl⟩ (fun z128924 F H locs hT hz128924 => ?_)
    obtain ⟨hz128924, yz128924⟩ := hz128924
    have hv128909 := (yz128924.1 _ 2 (Or.inr (by decide))).trans hv128909
    have hfr : (∀ b j : Nat, (tag b ≠ 19 ∨ j ≠ 1) → (tag b ≠ 26 ∨ j ≠ 13) → fld F b j = fld Fo b j) ∧ EF tag F Fo := ⟨fun b j n19_1 n26_13 => (yz128924.1 b j n26_13).trans (hfr.1 b j n19_1 n26_13), fun b j hb => (yz128924.2 b j hb).trans (hfr.2 b j hb)⟩
    exact t_zret hQ X hT (nar_z (by omega)) (⟨(by omega), hfr⟩) (Nat.le_of_ble_eq_true rfl) (Nat.le_of_ble_eq_true rfl) dX11_seed_12
set_option maxHeartbeats 4000000 in
set_option maxRecDepth 100000 in
theorem kt407_J6_bitCount_0f7a4 (l : Launch) (G : KG) (tag : Nat → Nat) (L : List Nat) (F : Nat → va_E) (ho : okT G ttC tag L F) (p0 : Int32)  : TMi l yJ6_bitCount_0f7a4 cJ6_bitCount_0f7a4 1 (some .int) { frames := 0, cells := 0, slots := 0, locals := 0 } G ttC tag L F [.int p0] (fun r F1 => F1 = F ∧ (0 ≤ r.toInt ∧ r.toInt ≤ 63)) := by
  refine t_bodyi (y := yJ6_bitCount_0f7a4) (cd := cJ6_bitCount_0f7a4) (mL := 1) (rt := (some .int)) (rm := { frames := 0, cells := 0, slots := 0, locals := 0 }) (av := [.int p0]) (by decide) (Nat.le_of_ble_eq_true rfl) ho ?_
  intro p e s m args below meth c ls A Q hQ X hT hl
  have hx := X.1.1
  have hb := X.1.2.1
  have hl : lv_has ls 1 [(0, .int p0)] := hl
  have rp0 := rg_all p0
  refine lv_iload_n hx hb dJ6_bitCount_0f7a4_0 rfl (lv_at hl 0 rfl) ?_
  refine lv_iload_n hx hb dJ6_bitCount_0f7a4_1 rfl (lv_at hl 0 rfl) ?_
  refine lv_iconst (v := 1) hx hb dJ6_bitCount_0f7a4_2 (by decide) ?_
  refine lv_iushr hx hb dJ6_bitCount_0f7a4_3 rfl ?_
  refine lv_topi (fun z129127 ez129127 => ?_)
  have rz129127 := rg_all z129127
  refine m_ldcw X qw_733 dJ6_bitCount_0f7a4_4 ?_
  refine lv_iand hx hb dJ6_bitCount_0f7a4_7 ?_
  refine lv_topi (fun z129128 ez129128 => ?_)
  have rz129128 := rg_all z129128
  refine lv_isub hx hb dJ6_bitCount_0f7a4_8 ?_
  refine lv_topi (fun z129129 ez129129 => ?_)
  have rz129129 := rg_all z129129
  refine lv_istore_n (lv' := [(0, .int z129129)]) hx hb dJ6_bitCount_0f7a4_9 rfl hl (by decide) rfl (fun ls hl => ?_)
  refine lv_iload_n hx hb dJ6_bitCount_0f7a4_10 rfl (lv_at hl 0 rfl) ?_
  refine m_ldcw X qw_734 dJ6_bitCount_0f7a4_11 ?_
  refine lv_iand hx hb dJ6_bitCount_0f7a4_14 ?_
  refine lv_topi (fun z129130 ez129130 => ?_)
  have rz129130 := rg_all z129130
  refine lv_iload_n hx hb dJ6_bitCount_0f7a4_15 rfl (lv_at hl 0 rfl) ?_
  refine lv_iconst (v := 2) hx hb dJ6_bitCount_0f7a4_16 (by decide) ?_
  refine lv_iushr hx hb dJ6_bitCount_0f7a4_17 rfl ?_
  refine lv_topi (fun z129131 ez129131 => ?_)
  have rz129131 := rg_all z129131
  refine m_ldcw X qw_734 dJ6_bitCount_0f7a4_18 ?_
  refine lv_iand hx hb dJ6_bitCount_0f7a4_21 ?_
  refine lv_topi (fun z129132 ez129132 => ?_)
  have rz129132 := rg_all z129132
  refine lv_iadd hx hb dJ6_bitCount_0f7a4_22 ?_
  refine lv_topi (fun z129133 ez129133 => ?_)
  have rz129133 := rg_all z129133
  refine lv_istore_n (lv' := [(0, .int z129133)]) hx hb dJ6_bitCount_0f7a4_23 rfl hl (by decide) rfl (fun ls hl => ?_)
  refine lv_iload_n hx hb dJ6_bitCount_0f7a4_24 rfl (lv_at hl 0 rfl) ?_
  refine lv_iload_n hx hb dJ6_bitCount_0f7a4_25 rfl (lv_at hl 0 rfl) ?_
  refine lv_iconst (v := 4) hx hb dJ6_bitCount_0f7a4_26 (by decide) ?_
  refine lv_iushr hx hb dJ6_bitCount_0f7a4_27 rfl ?_
  refine lv_topi (fun z129134 ez129134 => ?_)
  have rz129134 := rg_all z129134
  refine lv_iadd hx hb dJ6_bitCount_0f7a4_28 ?_
  refine lv_topi (fun z129135 ez129135 => ?_)
  have rz129135 := rg_all z129135
  refine m_ldcw X qw_735 dJ6_bitCount_0f7a4_29 ?_
  refine lv_iand hx hb dJ6_bitCount_0f7a4_32 ?_
  refine lv_topi (fun z129136 ez129136 => ?_)
  have rz129136 := rg_all z129136
  refine lv_istore_n (lv' := [(0, .int z129136)]) hx hb dJ6_bitCount_0f7a4_33 rfl hl (by decide) rfl (fun ls hl => ?_)
  refine lv_iload_n hx hb dJ6_bitCount_0f7a4_34 rfl (lv_at hl 0 rfl) ?_
  refine lv_iload_n hx hb dJ6_bitCount_0f7a4_35 rfl (lv_at hl 0 rfl) ?_
  refine lv_bipush (v := 8) hx hb dJ6_bitCount_0f7a4_36 (by decide) ?_
  refine lv_iushr hx hb dJ6_bitCount_0f7a4_38 rfl ?_
  refine lv_topi (fun z129137 ez129137 => ?_)
  have rz129137 := rg_all z129137
  refine lv_iadd hx hb dJ6_bitCount_0f7a4_39 ?_
  refine lv_topi (fun z129138 ez129138 => ?_)
  have rz129138 := rg_all z129138
  refine lv_istore_n (lv' := [(0, .int z129138)]) hx hb dJ6_bitCount_0f7a4_40 rfl hl (by decide) rfl (fun ls hl => ?_)
  refine lv_iload_n hx hb dJ6_bitCount_0f7a4_41 rfl (lv_at hl 0 rfl) ?_
  refine lv_iload_n hx hb dJ6_bitCount_0f7a4_42 rfl (lv_at hl 0 rfl) ?_
  refine lv_bipush (v := 16) hx hb dJ6_bitCount_0f7a4_43 (by decide) ?_
  refine lv_iushr hx hb dJ6_bitCount_0f7a4_45 rfl ?_
  refine lv_topi (fun z129139 ez129139 => ?_)
  have rz129139 := rg_all z129139
  refine lv_iadd hx hb dJ6_bitCount_0f7a4_46 ?_
  refine lv_topi (fun z129140 ez129140 => ?_)
  have rz129140 := rg_all z129140
  refine lv_istore_n (lv' := [(0, .int z129140)]) hx hb dJ6_bitCount_0f7a4_47 rfl hl (by decide) rfl (fun ls hl => ?_)
  refine lv_iload_n hx hb dJ6_bitCount_0f7a4_48 rfl (lv_at hl 0 rfl) ?_
  refine lv_bipush (v := 63) hx hb dJ6_bitCount_0f7a4_49 (by decide) ?_
  refine lv_iand hx hb dJ6_bitCount_0f7a4_51 ?_
  refine lv_topi (fun z129141 ez129141 => ?_)
  have rz129141 : 0 ≤ z129141.toInt ∧ z129141.toInt ≤ 63 := ar_and ez129141 6 (by decide) (by decide)
  exact t_iret hQ X hT (⟨rfl, (by omega)⟩) (Nat.le_of_ble_eq_true rfl) (Nat.le_of_ble_eq_true rfl) dJ6_bitCount_0f7a4_52
set_option maxHeartbeats 4000000 in
set_option maxRecDepth 100000 in
theorem kt408_X11_shared (l : Launch) (G : KG) (tag : Nat → Nat) (L : List Nat) (Fo : Nat → va_E) (ho : okT G ttC tag L Fo) (p0 : Nat) (m0 : p0 ∈ L) (g0 : tag p0 = 26) : TMi l yX11_shared cX11_shared 4 (some .int) { frames := 2, cells := 0, slots := 0, locals := 50 } G ttC tag L Fo [.ref p0] (fun r F1 => ((-2147483648) ≤ r.toInt ∧ r.toInt ≤ 2147483647) ∧ ((∀ b j : Nat, (tag b ≠ 26 ∨ j ≠ 13) → fld F1 b j = fld Fo b j) ∧ EF tag F1 Fo)) := by
  refine t_bodyi (y := yX11_shared) (cd := cX11_shared) (mL := 4) (rt := (some .int)) (rm := { frames := 2, cells := 0, slots := 0, locals := 50 }) (av := [.ref p0]) (by decide) (Nat.le_of_ble_eq_true rfl) ho ?_
  intro p e s m args below meth c ls A Q hQ X hT hl
  have hx := X.1.1
  have hb := X.1.2.1
  have hl : lv_has ls 4 [(0, .ref p0)] := hl
  obtain ⟨F, hFo⟩ : ∃ F : Nat → va_E, F = Fo := ⟨_, rfl⟩
  rw [← hFo] at hT
  have hfr : (∀ b j : Nat, (tag b ≠ 26 ∨ j ≠ 13) → fld F b j = fld Fo b j) ∧ EF tag F Fo := by
    rw [hFo]
    exact ⟨by intros; rfl, fun _ _ _ => rfl⟩
  have K17 : ∀ (n : Nat) (z130367 : Int32) (z130368 : Int32) (z130369 : Int32) (F : Nat → va_E) (H : Heap) (locs : List Loc) (ls : Array Slot), (12 - z130368.toInt < (n : Int)) → (0 ≤ z130368.toInt ∧ z130368.toInt ≤ 12) → (1 ≤ z130369.toInt ∧ z130369.toInt ≤ 1) → TH G ttC A s tag L F H locs → ((∀ b j : Nat, (tag b ≠ 26 ∨ j ≠ 13) → fld F b j = fld Fo b j) ∧ EF tag F Fo) → fld F p0 2 = .int z130369 → lv_has ls 4 [(0, .ref p0), (1, .int z130367), (2, .int z130368)] → W p l e { frames := 2, cells := 0, slots := 0, locals := 50 } s m args below meth c H locs 0 0 Q (F0 m 17 ls []) := by
    intro n
    induction n with
    | zero =>
      intro z130367 z130368 z130369 F H locs ls hn rz130368 rz130369 hT hfr qz130369 hl
      have rz130367 := rg_all z130367
      exfalso
      omega
    | succ n ih17 =>
      intro z130367 z130368 z130369 F H locs ls hn rz130368 rz130369 hT hfr qz130369 hl
      have rz130367 := rg_all z130367
      have K30 : ∀ (n : Nat) (z130370 : Int32) (z130372 : Int32) (z130373 : Int32) (F : Nat → va_E) (H : Heap) (locs : List Loc) (ls : Array Slot), (12 - z130372.toInt < (n : Int)) → (0 ≤ z130372.toInt ∧ z130372.toInt ≤ 12) → (1 ≤ z130373.toInt ∧ z130373.toInt ≤ 1) → (0 ≤ z130368.toInt ∧ z130368.toInt ≤ 11) → TH G ttC A s tag L F H locs → ((∀ b j : Nat, (tag b ≠ 26 ∨ j ≠ 13) → fld F b j = fld Fo b j) ∧ EF tag F Fo) → fld F p0 2 = .int z130373 → lv_has ls 4 [(0, .ref p0), (1, .int z130370), (2, .int z130368), (3, .int z130372)] → W p l e { frames := 2, cells := 0, slots := 0, locals := 50 } s m args below meth c H locs 0 0 Q (F0 m 30 ls []) := by
        intro n
        induction n with
        | zero =>
          intro z130370 z130372 z130373 F H locs ls hn rz130372 rz130373 r9s130371 hT hfr qz130373 hl
          have rz130370 := rg_all z130370
          exfalso
          omega
        | succ n ih30 =>
          intro z130370 z130372 z130373 F H locs ls hn rz130372 rz130373 r9s130371 hT hfr qz130373 hl
          have rz130370 := rg_all z130370
          have K64 : ∀ (z130374 : Int32) (z130376 : Int32) (F : Nat → va_E) (H : Heap) (locs : List Loc) (ls : Array Slot), (1 ≤ z130376.toInt ∧ z130376.toInt ≤ 1) → (0 ≤ z130372.toInt ∧ z130372.toInt ≤ 11) → TH G ttC A s tag L F H locs → ((∀ b j : Nat, (tag b ≠ 26 ∨ j ≠ 13) → fld F b j = fld Fo b j) ∧ EF tag F Fo) → fld F p0 2 = .int z130376 → lv_has ls 4 [(0, .ref p0), (1, .int z130374), (2, .int z130368), (3, .int z130372)] → W p l e { frames := 2, cells := 0, slots := 0, locals := 50 } s m args below meth c H locs 0 0 Q (F0 m 64 ls []) := by
            intro z130374 z130376 F H locs ls rz130376 r9s130375 hT hfr qz130376 hl
            have rz130374 := rg_all z130374
            obtain ⟨z130377, ez130377⟩ : ∃ y : Int32, y = z130372 + 1 := ⟨_, rfl⟩
            have hz130377 : z130377.toInt = z130372.toInt + 1 := ar_add ez130377 rfl (by decide : (1 : Int32).toInt = 1) (by omega) (by omega)
            refine lv_iinc (v := z130377) (lv' := [(3, .int z130377), (0, .ref p0), (1, .int z130374), (2, .int z130368)]) hx hb dX11_shared_64 hl (k := 3) rfl (by rw [ez130377]; rfl) (by decide) rfl (fun ls hl => ?_)
            refine lv_goto (tgt := 30) hx hb dX11_shared_67 (by decide) ?_
            exact ih30 z130374 z130377 z130376 _ _ _ _ (by omega) (by omega) (by omega) (by omega) hT hfr qz130376 (lv_sub hl [1, 2, 3, 0] rfl)
          refine lv_iload_n hx hb dX11_shared_30 rfl (lv_at hl 3 rfl) ?_
          refine lv_aload_n hx hb dX11_shared_31 rfl (lv_at hl 0 rfl) ?_
          refine t_get (C := RX11) (T := TX11) (N := 16) X hT m0 g0 rfl rfl 3 (by decide) qw_18 inlX11 rfl dX11_shared_32 (fun v130378 hv130378 ov130378 => ?_)
          obtain ⟨b130379, rfl, mb130379, gb130379⟩ := okV_r ov130378
          have gb130379 : tag b130379 = 18 := tg_of gb130379
          refine t_get (C := RX1) (T := TX1) (N := 20) X hT mb130379 gb130379 rfl rfl 0 (by decide) qw_728 inlX1 rfl dX11_shared_35 (fun v130380 hv130380 ov130380 => ?_)
          obtain ⟨z130381, rfl, rz130381⟩ := okV_i ov130380
          refine lv_icmp_ge (tgt := 70) hx hb dX11_shared_38 (by decide) (fun c130382 => ?_) (fun c130382 => ?_)
          · have w130383 := cv_le (rfl : z130381.toInt = z130381.toInt) (rfl : z130372.toInt = z130372.toInt) c130382
            obtain ⟨z130384, ez130384⟩ : ∃ y : Int32, y = z130368 + 1 := ⟨_, rfl⟩
            have hz130384 : z130384.toInt = z130368.toInt + 1 := ar_add ez130384 rfl (by decide : (1 : Int32).toInt = 1) (by omega) (by omega)
            refine lv_iinc (v := z130384) (lv' := [(2, .int z130384), (0, .ref p0), (1, .int z130370), (3, .int z130372)]) hx hb dX11_shared_70 hl (k := 2) rfl (by rw [ez130384]; rfl) (by decide) rfl (fun ls hl => ?_)
            refine lv_goto (tgt := 17) hx hb dX11_shared_73 (by decide) ?_
            exact ih17 z130370 z130384 z130373 _ _ _ _ (by omega) (by omega) (by omega) hT hfr qz130373 (lv_sub hl [1, 2, 0] rfl)
          · have w130385 := cv_nle (rfl : z130381.toInt = z130381.toInt) (rfl : z130372.toInt = z130372.toInt) c130382
            refine lv_aload_n hx hb dX11_shared_41 rfl (lv_at hl 0 rfl) ?_
            refine t_get (C := RX11) (T := TX11) (N := 16) X hT m0 g0 rfl rfl 3 (by decide) qw_18 inlX11 rfl dX11_shared_42 (fun v130386 hv130386 ov130386 => ?_)
            obtain rfl : v130386 = .ref b130379 := hv130386.symm.trans hv130378
            refine lv_aload_n hx hb dX11_shared_45 rfl (lv_at hl 0 rfl) ?_
            refine t_get (C := RX11) (T := TX11) (N := 16) X hT m0 g0 rfl rfl 5 (by decide) qw_23 inlX11 rfl dX11_shared_46 (fun v130387 hv130387 ov130387 => ?_)
            obtain ⟨b130388, rfl, mb130388, gb130388⟩ := okV_r ov130387
            have gb130388 : tag b130388 = 19 := tg_of gb130388
            refine lv_iload_n hx hb dX11_shared_49 rfl (lv_at hl 3 rfl) ?_
            refine lv_iload_n hx hb dX11_shared_50 rfl (lv_at hl 2 rfl) ?_
            refine t_cSi (n := 4) (As := [.ref b130379, .ref b130388, .int z130372, .int z130368]) (rest := []) X hT (kt322_X6_ownersOf l G tag L F hT.2.2.2 b130379 b130388 z130372 z130368 mb130379 gb130379 mb130388 gb130388) qw_712 qw_713 qw_380 qw_714 ⟨by decide +kernel, by decide +kernel, by decide +kernel⟩ ⟨Nat.le_of_ble_eq_true rfl, Nat.le_of_ble_eq_true rfl⟩ hl rfl rfl (Nat.le_of_ble_eq_true rfl) dX11_shared_51 ⟨Nat.le_of_ble_eq_true rfl, Nat.le_of_ble_eq_true rfl⟩ (fun z130389 F9 H locs hT hz130389 => ?_)
            obtain ⟨fz130389, hz130389⟩ := hz130389
            rw [fz130389] at hT
            refine t_cSi (n := 1) (As := [.int z130389]) (rest := []) X hT (kt407_J6_bitCount_0f7a4 l G tag L F hT.2.2.2 z130389 ) qw_729 qw_730 qw_731 qw_732 ⟨by decide +kernel, by decide +kernel, by decide +kernel⟩ ⟨Nat.le_of_ble_eq_true rfl, Nat.le_of_ble_eq_true rfl⟩ hl rfl rfl (Nat.le_of_ble_eq_true rfl) dX11_shared_54 ⟨Nat.le_of_ble_eq_true rfl, Nat.le_of_ble_eq_true rfl⟩ (fun z130390 F9 H locs hT hz130390 => ?_)
            obtain ⟨fz130390, hz130390⟩ := hz130390
            rw [fz130390] at hT
            refine lv_iconst (v := 1) hx hb dX11_shared_57 (by decide) ?_
            refine lv_icmp_le (tgt := 64) hx hb dX11_shared_58 (by decide) (fun c130391 => ?_) (fun c130391 => ?_)
            · have w130392 := cv_le (rfl : z130390.toInt = z130390.toInt) (by decide : (1 : Int32).toInt = 1) c130391
              exact K64 z130370 z130373 _ _ _ _ (by omega) (by omega) hT hfr qz130373 (lv_sub hl [0, 1, 2, 3] rfl)
            · have w130393 := cv_nle (rfl : z130390.toInt = z130390.toInt) (by decide : (1 : Int32).toInt = 1) c130391
              obtain ⟨z130394, ez130394⟩ : ∃ y : Int32, y = z130370 + 1 := ⟨_, rfl⟩
              have rz130394 := rg_all z130394
              refine lv_iinc (v := z130394) (lv' := [(1, .int z130394), (0, .ref p0), (2, .int z130368), (3, .int z130372)]) hx hb dX11_shared_61 hl (k := 1) rfl (by rw [ez130394]; rfl) (by decide) rfl (fun ls hl => ?_)
              exact K64 z130394 z130373 _ _ _ _ (by omega) (by omega) hT hfr qz130373 (lv_sub hl [1, 0, 2, 3] rfl)
      refine lv_iload_n hx hb dX11_shared_17 rfl (lv_at hl 2 rfl) ?_
      refine lv_aload_n hx hb dX11_shared_18 rfl (lv_at hl 0 rfl) ?_
      refine t_get (C := RX11) (T := TX11) (N := 16) X hT m0 g0 rfl rfl 3 (by decide) qw_18 inlX11 rfl dX11_shared_19 (fun v130395 hv130395 ov130395 => ?_)
      obtain ⟨b130396, rfl, mb130396, gb130396⟩ := okV_r ov130395
      have gb130396 : tag b130396 = 18 := tg_of gb130396
      refine t_get (C := RX1) (T := TX1) (N := 20) X hT mb130396 gb130396 rfl rfl 1 (by decide) qw_727 inlX1 rfl dX11_shared_22 (fun v130397 hv130397 ov130397 => ?_)
      obtain ⟨z130398, rfl, rz130398⟩ := okV_i ov130397
      refine lv_icmp_ge (tgt := 76) hx hb dX11_shared_25 (by decide) (fun c130399 => ?_) (fun c130399 => ?_)
      · have w130400 := cv_le (rfl : z130398.toInt = z130398.toInt) (rfl : z130368.toInt = z130368.toInt) c130399
        refine lv_aload_n hx hb dX11_shared_76 rfl (lv_at hl 0 rfl) ?_
        refine lv_iload_n hx hb dX11_shared_77 rfl (lv_at hl 1 rfl) ?_
        refine t_cVi (n := 1) (C := RX11) (T := TX11) (N := 16) (As := [.int z130367]) (rest := []) X hT (kt350_X11_answer l G tag L F hT.2.2.2 p0 z130367 m0 g0) m0 g0 rfl rfl qw_463 qw_464 qw_465 qw_2 qw_466 ⟨rfl, by decide +kernel, by decide +kernel, by decide +kernel⟩ ⟨Nat.le_of_ble_eq_true rfl, Nat.le_of_ble_eq_true rfl⟩ hl rfl rfl (Nat.le_of_ble_eq_true rfl) dX11_shared_78 ⟨Nat.le_of_ble_eq_true rfl, Nat.le_of_ble_eq_true rfl⟩ (fun z130401 F H locs hT hz130401 => ?_)
        obtain ⟨hz130401, yz130401⟩ := hz130401
        have qz130369 := (yz130401.1 _ 2 (Or.inr (by decide))).trans qz130369
        have hv130395 := (yz130401.1 _ 3 (Or.inr (by decide))).trans hv130395
        have hv130397 := (yz130401.1 _ 1 (Or.inr (by decide))).trans hv130397
        have hfr : (∀ b j : Nat, (tag b ≠ 26 ∨ j ≠ 13) → fld F b j = fld Fo b j) ∧ EF tag F Fo := ⟨fun b j n26_13 => (yz130401.1 b j n26_13).trans (hfr.1 b j n26_13), fun b j hb => (yz130401.2 b j hb).trans (hfr.2 b j hb)⟩
        exact t_iret hQ X hT (⟨rg_all _, hfr⟩) (Nat.le_of_ble_eq_true rfl) (Nat.le_of_ble_eq_true rfl) dX11_shared_81
      · have w130402 := cv_nle (rfl : z130398.toInt = z130398.toInt) (rfl : z130368.toInt = z130368.toInt) c130399
        refine lv_iconst (v := 0) hx hb dX11_shared_28 (by decide) ?_
        refine lv_istore_n (lv' := [(3, .int 0), (0, .ref p0), (1, .int z130367), (2, .int z130368)]) hx hb dX11_shared_29 rfl hl (by decide) rfl (fun ls hl => ?_)
        have kk130403 : (0 : Int32).toInt = 0 := by decide
        exact K30 13 z130367 0 z130369 _ _ _ _ (by omega) (by decide) (by omega) (by omega) hT hfr qz130369 (lv_sub hl [1, 2, 3, 0] rfl)
  refine lv_aload_n hx hb dX11_shared_0 rfl (lv_at hl 0 rfl) ?_
  refine t_get (C := RX11) (T := TX11) (N := 16) X hT m0 g0 rfl rfl 2 (by decide) qw_150 inlX11 rfl dX11_shared_1 (fun v130404 hv130404 ov130404 => ?_)
  obtain ⟨z130405, rfl, rz130405⟩ := okV_i ov130404
  refine lv_if_ne (tgt := 13) hx hb dX11_shared_4 (by decide) (fun c130406 => ?_) (fun c130406 => ?_)
  · have w130407 := cv_ne (rfl : z130405.toInt = z130405.toInt) (by decide : (0 : Int32).toInt = 0) c130406
    refine lv_iconst (v := 0) hx hb dX11_shared_13 (by decide) ?_
    refine lv_istore_n (lv' := [(1, .int 0), (0, .ref p0)]) hx hb dX11_shared_14 rfl hl (by decide) rfl (fun ls hl => ?_)
    refine lv_iconst (v := 0) hx hb dX11_shared_15 (by decide) ?_
    refine lv_istore_n (lv' := [(2, .int 0), (1, .int 0), (0, .ref p0)]) hx hb dX11_shared_16 rfl hl (by decide) rfl (fun ls hl => ?_)
    have kk130408 : (0 : Int32).toInt = 0 := by decide
    have kk130409 : (0 : Int32).toInt = 0 := by decide
    exact K17 13 0 0 z130405 _ _ _ _ (by omega) (by decide) (by omega) hT hfr hv130404 (lv_sub hl [2, 1, 0] rfl)
  · have w130410 := cv_eq (rfl : z130405.toInt = z130405.toInt) (by decide : (0 : Int32).toInt = 0) c130406
    refine lv_aload_n hx hb dX11_shared_7 rfl (lv_at hl 0 rfl) ?_
    refine lv_iconst (v := 1) hx hb dX11_shared_8 (by decide) ?_
    refine t_cVi (n := 1) (C := RX11) (T := TX11) (N := 16) (As := [.int 1]) (rest := []) X hT (kt357_X11_refuse l G tag L F hT.2.2.2 p0 1 m0 g0) m0 g0 rfl rfl qw_152 qw_153 qw_154 qw_2 qw_155 ⟨rfl, by decide +kernel, by decide +kernel, by decide +kernel⟩ ⟨Nat.le_of_ble_eq_true rfl, Nat.le_of_ble_eq_true rfl⟩ hl rfl rfl (Nat.le_of_ble_eq_true rfl) dX11_shared_9 ⟨Nat.le_of_ble_eq_true rfl, Nat.le_of_ble_eq_true rfl⟩ (fun z130411 F H locs hT hz130411 => ?_)
    obtain ⟨hz130411, yz130411⟩ := hz130411
    have hv130404 := (yz130411.1 _ 2 (Or.inr (by decide))).trans hv130404
    have hfr : (∀ b j : Nat, (tag b ≠ 26 ∨ j ≠ 13) → fld F b j = fld Fo b j) ∧ EF tag F Fo := ⟨fun b j n26_13 => (yz130411.1 b j n26_13).trans (hfr.1 b j n26_13), fun b j hb => (yz130411.2 b j hb).trans (hfr.2 b j hb)⟩
    exact t_iret hQ X hT (⟨rg_all _, hfr⟩) (Nat.le_of_ble_eq_true rfl) (Nat.le_of_ble_eq_true rfl) dX11_shared_12
