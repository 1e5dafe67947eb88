set_option maxHeartbeats 4000000 in
set_option maxRecDepth 100000 in
theorem kt114_X11_move (l : Launch) (G : KG) (tag : Nat → Nat) (L : List Nat) (Fo : Nat → va_E) (ho : okT G ttC tag L Fo) (p0 : Nat) (p1 : Int32) (p2 : Int32) (m0 : p0 ∈ L) (g0 : tag p0 = 26) : TMi l yX11_move cX11_move 3 (some .boolean) { frames := 3, cells := 0, slots := 0, locals := 68 } G ttC tag L Fo [.ref p0, .int p1, .int p2] (fun r F1 => (0 ≤ r.toInt ∧ r.toInt ≤ 1) ∧ ((∀ b j : Nat, (tag b ≠ 19 ∨ j ≠ 0) → (tag b ≠ 19 ∨ j ≠ 1) → (tag b ≠ 23 ∨ j ≠ 2) → (tag b ≠ 23 ∨ j ≠ 3) → (tag b ≠ 26 ∨ j ≠ 13) → fld F1 b j = fld Fo b j) ∧ EF tag F1 Fo)) := by
  refine t_bodyi (y := yX11_move) (cd := cX11_move) (mL := 3) (rt := (some .boolean)) (rm := { frames := 3, cells := 0, slots := 0, locals := 68 }) (av := [.ref p0, .int p1, .int p2]) (by decide) (Nat.le_of_ble_eq_true rfl) ho ?_
  intro p e s m args below meth c ls A Q hQ X hT hl
  have hx := X.1.1
  have hb := X.1.2.1
  have hl : lv_has ls 3 [(0, .ref p0), (1, .int p1), (2, .int p2)] := hl
  have rp1 := rg_all p1
  have rp2 := rg_all p2
  obtain ⟨F, hFo⟩ : ∃ F : Nat → va_E, F = Fo := ⟨_, rfl⟩
  rw [← hFo] at hT
  have hfr : (∀ b j : Nat, (tag b ≠ 19 ∨ j ≠ 0) → (tag b ≠ 19 ∨ j ≠ 1) → (tag b ≠ 23 ∨ j ≠ 2) → (tag b ≠ 23 ∨ j ≠ 3) → (tag b ≠ 26 ∨ j ≠ 13) → fld F b j = fld Fo b j) ∧ EF tag F Fo := by
    rw [hFo]
    exact ⟨by intros; rfl, fun _ _ _ => rfl⟩
  have K25 : ∀  (F : Nat → va_E) (H : Heap) (locs : List Loc) (ls : Array Slot), TH G ttC A s tag L F H locs → ((∀ b j : Nat, (tag b ≠ 19 ∨ j ≠ 0) → (tag b ≠ 19 ∨ j ≠ 1) → (tag b ≠ 23 ∨ j ≠ 2) → (tag b ≠ 23 ∨ j ≠ 3) → (tag b ≠ 26 ∨ j ≠ 13) → fld F b j = fld Fo b j) ∧ EF tag F Fo) → lv_has ls 3 [(0, .ref p0), (1, .int p1), (2, .int p2)] → W p l e { frames := 3, cells := 0, slots := 0, locals := 68 } s m args below meth c H locs 0 0 Q (F0 m 25 ls []) := by
    intro F H locs ls hT hfr hl
    refine lv_aload_n hx hb dX11_move_25 rfl (lv_at hl 0 rfl) ?_
    refine lv_iconst (v := 1) hx hb dX11_move_26 (by decide) ?_
    refine t_cVi (n := 1) (C := RX11) (T := TX11) (N := 16) (As := [.int 1]) (rest := []) X hT (kt58_X11_no l G tag L F hT.2.2.2 p0 1 m0 g0) m0 g0 rfl rfl qw_1454 qw_1455 qw_1456 qw_2 qw_1457 ⟨rfl, by decide +kernel, by decide +kernel, by decide +kernel⟩ ⟨Nat.le_of_ble_eq_true rfl, Nat.le_of_ble_eq_true rfl⟩ hl rfl rfl (Nat.le_of_ble_eq_true rfl) dX11_move_27 ⟨Nat.le_of_ble_eq_true rfl, Nat.le_of_ble_eq_true rfl⟩ (fun z42477 F H locs hT hz42477 => ?_)
    obtain ⟨hz42477, yz42477⟩ := hz42477
    have hfr : (∀ b j : Nat, (tag b ≠ 19 ∨ j ≠ 0) → (tag b ≠ 19 ∨ j ≠ 1) → (tag b ≠ 23 ∨ j ≠ 2) → (tag b ≠ 23 ∨ j ≠ 3) → (tag b ≠ 26 ∨ j ≠ 13) → fld F b j = fld Fo b j) ∧ EF tag F Fo := ⟨fun b j n19_0 n19_1 n23_2 n23_3 n26_13 => (yz42477.1 b j n26_13).trans (hfr.1 b j n19_0 n19_1 n23_2 n23_3 n26_13), fun b j hb => (yz42477.2 b j hb).trans (hfr.2 b j hb)⟩
    exact t_zret hQ X hT (nar_z (by omega)) (⟨(by omega), hfr⟩) (Nat.le_of_ble_eq_true rfl) (Nat.le_of_ble_eq_true rfl) dX11_move_30
  have K68 : ∀  (F : Nat → va_E) (H : Heap) (locs : List Loc) (ls : Array Slot), (0 ≤ p1.toInt ∧ p1.toInt ≤ 5) → (0 ≤ p2.toInt ∧ p2.toInt ≤ 6) → TH G ttC A s tag L F H locs → ((∀ b j : Nat, (tag b ≠ 19 ∨ j ≠ 0) → (tag b ≠ 19 ∨ j ≠ 1) → (tag b ≠ 23 ∨ j ≠ 2) → (tag b ≠ 23 ∨ j ≠ 3) → (tag b ≠ 26 ∨ j ≠ 13) → fld F b j = fld Fo b j) ∧ EF tag F Fo) → lv_has ls 3 [(0, .ref p0), (1, .int p1), (2, .int p2)] → W p l e { frames := 3, cells := 0, slots := 0, locals := 68 } s m args below meth c H locs 0 0 Q (F0 m 68 ls []) := by
    intro F H locs ls r9s42478 r9s42479 hT hfr hl
    refine lv_aload_n hx hb dX11_move_68 rfl (lv_at hl 0 rfl) ?_
    refine lv_iconst (v := 5) hx hb dX11_move_69 (by decide) ?_
    refine t_cVi (n := 1) (C := RX11) (T := TX11) (N := 16) (As := [.int 5]) (rest := []) X hT (kt58_X11_no l G tag L F hT.2.2.2 p0 5 m0 g0) m0 g0 rfl rfl qw_1454 qw_1455 qw_1456 qw_2 qw_1457 ⟨rfl, by decide +kernel, by decide +kernel, by decide +kernel⟩ ⟨Nat.le_of_ble_eq_true rfl, Nat.le_of_ble_eq_true rfl⟩ hl rfl rfl (Nat.le_of_ble_eq_true rfl) dX11_move_70 ⟨Nat.le_of_ble_eq_true rfl, Nat.le_of_ble_eq_true rfl⟩ (fun z42480 F H locs hT hz42480 => ?_)
    obtain ⟨hz42480, yz42480⟩ := hz42480
    have hfr : (∀ b j : Nat, (tag b ≠ 19 ∨ j ≠ 0) → (tag b ≠ 19 ∨ j ≠ 1) → (tag b ≠ 23 ∨ j ≠ 2) → (tag b ≠ 23 ∨ j ≠ 3) → (tag b ≠ 26 ∨ j ≠ 13) → fld F b j = fld Fo b j) ∧ EF tag F Fo := ⟨fun b j n19_0 n19_1 n23_2 n23_3 n26_13 => (yz42480.1 b j n26_13).trans (hfr.1 b j n19_0 n19_1 n23_2 n23_3 n26_13), fun b j hb => (yz42480.2 b j hb).trans (hfr.2 b j hb)⟩
    exact t_zret hQ X hT (nar_z (by omega)) (⟨(by omega), hfr⟩) (Nat.le_of_ble_eq_true rfl) (Nat.le_of_ble_eq_true rfl) dX11_move_73
  have K74 : ∀  (F : Nat → va_E) (H : Heap) (locs : List Loc) (ls : Array Slot), (0 ≤ p1.toInt ∧ p1.toInt ≤ 5) → (0 ≤ p2.toInt ∧ p2.toInt ≤ 6) → TH G ttC A s tag L F H locs → ((∀ b j : Nat, (tag b ≠ 19 ∨ j ≠ 0) → (tag b ≠ 19 ∨ j ≠ 1) → (tag b ≠ 23 ∨ j ≠ 2) → (tag b ≠ 23 ∨ j ≠ 3) → (tag b ≠ 26 ∨ j ≠ 13) → fld F b j = fld Fo b j) ∧ EF tag F Fo) → lv_has ls 3 [(0, .ref p0), (1, .int p1), (2, .int p2)] → W p l e { frames := 3, cells := 0, slots := 0, locals := 68 } s m args below meth c H locs 0 0 Q (F0 m 74 ls []) := by
    intro F H locs ls r9s42481 r9s42482 hT hfr hl
    refine lv_aload_n hx hb dX11_move_74 rfl (lv_at hl 0 rfl) ?_
    refine t_get (C := RX11) (T := TX11) (N := 16) X hT m0 g0 rfl rfl 12 (by decide) qw_45 inlX11 rfl dX11_move_75 (fun v42483 hv42483 ov42483 => ?_)
    obtain ⟨b42484, rfl, mb42484, gb42484⟩ := okV_r ov42483
    have gb42484 : tag b42484 = 23 := tg_of gb42484
    refine lv_aload_n hx hb dX11_move_78 rfl (lv_at hl 0 rfl) ?_
    refine t_get (C := RX11) (T := TX11) (N := 16) X hT m0 g0 rfl rfl 5 (by decide) qw_23 inlX11 rfl dX11_move_79 (fun v42485 hv42485 ov42485 => ?_)
    obtain ⟨b42486, rfl, mb42486, gb42486⟩ := okV_r ov42485
    have gb42486 : tag b42486 = 19 := tg_of gb42486
    refine t_cVv (n := 1) (C := RX2) (T := TX2) (N := 5) (As := [.ref b42486]) (rest := []) X hT (kt66_X2_keep l G tag L F hT.2.2.2 b42484 b42486 mb42484 gb42484 mb42486 gb42486) mb42484 gb42484 rfl rfl qw_1427 qw_1428 qw_1429 qw_44 qw_1430 ⟨rfl, by decide +kernel, by decide +kernel, by decide +kernel⟩ ⟨Nat.le_of_ble_eq_true rfl, Nat.le_of_ble_eq_true rfl⟩ hl rfl rfl (Nat.le_of_ble_eq_true rfl) dX11_move_82 ⟨Nat.le_of_ble_eq_true rfl, Nat.le_of_ble_eq_true rfl⟩ (fun F H locs hT hz42487 => ?_)
    have yz42487 := hz42487
    have hv42483 := (yz42487.1 _ 12 (Or.inr (by decide)) (Or.inr (by decide)) (Or.inr (by decide)) (Or.inr (by decide))).trans hv42483
    have hv42485 := (yz42487.1 _ 5 (Or.inr (by decide)) (Or.inr (by decide)) (Or.inr (by decide)) (Or.inr (by decide))).trans hv42485
    have hfr : (∀ b j : Nat, (tag b ≠ 19 ∨ j ≠ 0) → (tag b ≠ 19 ∨ j ≠ 1) → (tag b ≠ 23 ∨ j ≠ 2) → (tag b ≠ 23 ∨ j ≠ 3) → (tag b ≠ 26 ∨ j ≠ 13) → fld F b j = fld Fo b j) ∧ EF tag F Fo := ⟨fun b j n19_0 n19_1 n23_2 n23_3 n26_13 => (yz42487.1 b j n19_0 n19_1 n23_2 n23_3).trans (hfr.1 b j n19_0 n19_1 n23_2 n23_3 n26_13), fun b j hb => (yz42487.2 b j hb).trans (hfr.2 b j hb)⟩
    refine lv_aload_n hx hb dX11_move_85 rfl (lv_at hl 0 rfl) ?_
    refine t_get (C := RX11) (T := TX11) (N := 16) X hT m0 g0 rfl rfl 5 (by decide) qw_23 inlX11 rfl dX11_move_86 (fun v42488 hv42488 ov42488 => ?_)
    obtain rfl : v42488 = .ref b42486 := hv42488.symm.trans hv42485
    refine t_get (C := RX7) (T := TX7) (N := 7) X hT mb42486 gb42486 rfl rfl 5 (by decide) qw_886 inlX7 rfl dX11_move_89 (fun v42489 hv42489 ov42489 => ?_)
    obtain ⟨b42490, rfl, mb42490, gb42490⟩ := okV_r ov42489
    have gb42490 : tag b42490 = 7 := tg_of gb42490
    refine lv_iload_n hx hb dX11_move_92 rfl (lv_at hl 1 rfl) ?_
    refine lv_iload_n hx hb dX11_move_93 rfl (lv_at hl 2 rfl) ?_
    refine t_ist X hT mb42490 gb42490 rfl (by omega) (show (-2147483648) ≤ (p2 : Int32).toInt ∧ (p2 : Int32).toInt ≤ 2147483647 from (by omega)) dX11_move_94 (fun F H locs hT v42491 h1v42491 h2v42491 => ?_)
    have hv42483 := (h2v42491 _ _).trans hv42483
    have hv42485 := (h2v42491 _ _).trans hv42485
    have hv42489 := (h2v42491 _ _).trans hv42489
    have hfr : (∀ b j : Nat, (tag b ≠ 19 ∨ j ≠ 0) → (tag b ≠ 19 ∨ j ≠ 1) → (tag b ≠ 23 ∨ j ≠ 2) → (tag b ≠ 23 ∨ j ≠ 3) → (tag b ≠ 26 ∨ j ≠ 13) → fld F b j = fld Fo b j) ∧ EF tag F Fo := ⟨fun b j n19_0 n19_1 n23_2 n23_3 n26_13 => (h2v42491 b j).trans (hfr.1 b j n19_0 n19_1 n23_2 n23_3 n26_13), fun b j hb => (h1v42491 b j (Or.inl (ns_ne hb gb42490 (by decide)))).trans (hfr.2 b j hb)⟩
    refine lv_aload_n hx hb dX11_move_95 rfl (lv_at hl 0 rfl) ?_
    refine t_cVi (n := 0) (C := RX11) (T := TX11) (N := 16) (As := []) (rest := []) X hT (kt59_X11_yes l G tag L F hT.2.2.2 p0 m0 g0) m0 g0 rfl rfl qw_1460 qw_1461 qw_1462 qw_2 qw_1463 ⟨rfl, by decide +kernel, by decide +kernel, by decide +kernel⟩ ⟨Nat.le_of_ble_eq_true rfl, Nat.le_of_ble_eq_true rfl⟩ hl rfl rfl (Nat.le_of_ble_eq_true rfl) dX11_move_96 ⟨Nat.le_of_ble_eq_true rfl, Nat.le_of_ble_eq_true rfl⟩ (fun z42492 F H locs hT hz42492 => ?_)
    obtain ⟨hz42492, yz42492⟩ := hz42492
    have hv42483 := (yz42492.1 _ 12 (Or.inr (by decide))).trans hv42483
    have hv42485 := (yz42492.1 _ 5 (Or.inr (by decide))).trans hv42485
    have hv42489 := (yz42492.1 _ 5 (Or.inr (by decide))).trans hv42489
    have hfr : (∀ b j : Nat, (tag b ≠ 19 ∨ j ≠ 0) → (tag b ≠ 19 ∨ j ≠ 1) → (tag b ≠ 23 ∨ j ≠ 2) → (tag b ≠ 23 ∨ j ≠ 3) → (tag b ≠ 26 ∨ j ≠ 13) → fld F b j = fld Fo b j) ∧ EF tag F Fo := ⟨fun b j n19_0 n19_1 n23_2 n23_3 n26_13 => (yz42492.1 b j n26_13).trans (hfr.1 b j n19_0 n19_1 n23_2 n23_3 n26_13), fun b j hb => (yz42492.2 b j hb).trans (hfr.2 b j hb)⟩
    exact t_zret hQ X hT (nar_z (by omega)) (⟨(by omega), hfr⟩) (Nat.le_of_ble_eq_true rfl) (Nat.le_of_ble_eq_true rfl) dX11_move_99
  refine lv_aload_n hx hb dX11_move_0 rfl (lv_at hl 0 rfl) ?_
  refine lv_iload_n hx hb dX11_move_1 rfl (lv_at hl 1 rfl) ?_
  refine t_cVi (n := 1) (C := RX11) (T := TX11) (N := 16) (As := [.int p1]) (rest := []) X hT (kt86_X11_isHeir l G tag L F hT.2.2.2 p0 p1 m0 g0) m0 g0 rfl rfl qw_887 qw_888 qw_889 qw_2 qw_890 ⟨rfl, by decide +kernel, by decide +kernel, by decide +kernel⟩ ⟨Nat.le_of_ble_eq_true rfl, Nat.le_of_ble_eq_true rfl⟩ hl rfl rfl (Nat.le_of_ble_eq_true rfl) dX11_move_2 ⟨Nat.le_of_ble_eq_true rfl, Nat.le_of_ble_eq_true rfl⟩ (fun z42493 F9 H locs hT hz42493 => ?_)
  obtain ⟨fz42493, hz42493⟩ := hz42493
  rw [fz42493] at hT
  obtain ⟨hz42493, iz42493⟩ := hz42493
  refine lv_if_eq (tgt := 25) hx hb dX11_move_5 (by decide) (fun c42494 => ?_) (fun c42494 => ?_)
  · have w42495 := cv_eq (rfl : z42493.toInt = z42493.toInt) (by decide : (0 : Int32).toInt = 0) c42494
    exact K25  _ _ _ _  hT hfr  (lv_sub hl [0, 1, 2] rfl)
  · have w42496 := cv_ne (rfl : z42493.toInt = z42493.toInt) (by decide : (0 : Int32).toInt = 0) c42494
    have w42497 := (fun h => (iz42493 h)) (by omega)
    refine lv_aload_n hx hb dX11_move_8 rfl (lv_at hl 0 rfl) ?_
    refine lv_aload_n hx hb dX11_move_9 rfl (lv_at hl 0 rfl) ?_
    refine t_get (C := RX11) (T := TX11) (N := 16) X hT m0 g0 rfl rfl 3 (by decide) qw_18 inlX11 rfl dX11_move_10 (fun v42498 hv42498 ov42498 => ?_)
    obtain ⟨b42499, rfl, mb42499, gb42499⟩ := okV_r ov42498
    have gb42499 : tag b42499 = 18 := tg_of gb42499
    refine t_get (C := RX1) (T := TX1) (N := 20) X hT mb42499 gb42499 rfl rfl 15 (by decide) qw_885 inlX1 rfl dX11_move_13 (fun v42500 hv42500 ov42500 => ?_)
    obtain ⟨b42501, rfl, mb42501, gb42501⟩ := okV_r ov42500
    have gb42501 : tag b42501 = 6 := tg_of gb42501
    refine lv_iload_n hx hb dX11_move_16 rfl (lv_at hl 1 rfl) ?_
    refine t_ild X hT mb42501 gb42501 rfl (by omega) dX11_move_17 (fun z42502 vz42502 rz42502 => ?_)
    have rz42502 : 0 ≤ z42502.toInt ∧ z42502.toInt ≤ 3 := rz42502
    refine lv_iload_n hx hb dX11_move_18 rfl (lv_at hl 2 rfl) ?_
    refine t_cVi (n := 2) (C := RX11) (T := TX11) (N := 16) (As := [.int z42502, .int p2]) (rest := []) X hT (kt62_X11_isRoom l G tag L F hT.2.2.2 p0 z42502 p2 m0 g0) m0 g0 rfl rfl qw_827 qw_828 qw_829 qw_2 qw_830 ⟨rfl, by decide +kernel, by decide +kernel, by decide +kernel⟩ ⟨Nat.le_of_ble_eq_true rfl, Nat.le_of_ble_eq_true rfl⟩ hl rfl rfl (Nat.le_of_ble_eq_true rfl) dX11_move_19 ⟨Nat.le_of_ble_eq_true rfl, Nat.le_of_ble_eq_true rfl⟩ (fun z42503 F9 H locs hT hz42503 => ?_)
    obtain ⟨fz42503, hz42503⟩ := hz42503
    rw [fz42503] at hT
    obtain ⟨hz42503, iz42503⟩ := hz42503
    refine lv_if_ne (tgt := 31) hx hb dX11_move_22 (by decide) (fun c42504 => ?_) (fun c42504 => ?_)
    · have w42505 := cv_ne (rfl : z42503.toInt = z42503.toInt) (by decide : (0 : Int32).toInt = 0) c42504
      have w42506 := (fun h => (iz42503 h).1) (by omega)
      have w42507 := (fun h => (iz42503 h).2) (by omega)
      refine lv_aload_n hx hb dX11_move_31 rfl (lv_at hl 0 rfl) ?_
      refine t_get (C := RX11) (T := TX11) (N := 16) X hT m0 g0 rfl rfl 5 (by decide) qw_23 inlX11 rfl dX11_move_32 (fun v42508 hv42508 ov42508 => ?_)
      obtain ⟨b42509, rfl, mb42509, gb42509⟩ := okV_r ov42508
      have gb42509 : tag b42509 = 19 := tg_of gb42509
      refine t_get (C := RX7) (T := TX7) (N := 7) X hT mb42509 gb42509 rfl rfl 5 (by decide) qw_886 inlX7 rfl dX11_move_35 (fun v42510 hv42510 ov42510 => ?_)
      obtain ⟨b42511, rfl, mb42511, gb42511⟩ := okV_r ov42510
      have gb42511 : tag b42511 = 7 := tg_of gb42511
      refine lv_iload_n hx hb dX11_move_38 rfl (lv_at hl 1 rfl) ?_
      refine t_ild X hT mb42511 gb42511 rfl (by omega) dX11_move_39 (fun z42512 vz42512 rz42512 => ?_)
      have rz42512 : (-2147483648) ≤ z42512.toInt ∧ z42512.toInt ≤ 2147483647 := rz42512
      refine lv_iload_n hx hb dX11_move_40 rfl (lv_at hl 2 rfl) ?_
      refine lv_icmp_eq (tgt := 68) hx hb dX11_move_41 (by decide) (fun c42513 => ?_) (fun c42513 => ?_)
      · have w42514 := cv_eq (rfl : z42512.toInt = z42512.toInt) (rfl : p2.toInt = p2.toInt) c42513
        exact K68  _ _ _ _ (by omega) (by omega) hT hfr  (lv_sub hl [0, 1, 2] rfl)
      · have w42515 := cv_ne (rfl : z42512.toInt = z42512.toInt) (rfl : p2.toInt = p2.toInt) c42513
        refine lv_iload_n hx hb dX11_move_44 rfl (lv_at hl 2 rfl) ?_
        refine lv_if_le (tgt := 74) hx hb dX11_move_45 (by decide) (fun c42516 => ?_) (fun c42516 => ?_)
        · have w42517 := cv_le (rfl : p2.toInt = p2.toInt) (by decide : (0 : Int32).toInt = 0) c42516
          exact K74  _ _ _ _ (by omega) (by omega) hT hfr  (lv_sub hl [0, 1, 2] rfl)
        · have w42518 := cv_nle (rfl : p2.toInt = p2.toInt) (by decide : (0 : Int32).toInt = 0) c42516
          refine lv_aload_n hx hb dX11_move_48 rfl (lv_at hl 0 rfl) ?_
          refine t_get (C := RX11) (T := TX11) (N := 16) X hT m0 g0 rfl rfl 5 (by decide) qw_23 inlX11 rfl dX11_move_49 (fun v42519 hv42519 ov42519 => ?_)
          obtain rfl : v42519 = .ref b42509 := hv42519.symm.trans hv42508
          refine lv_aload_n hx hb dX11_move_52 rfl (lv_at hl 0 rfl) ?_
          refine t_get (C := RX11) (T := TX11) (N := 16) X hT m0 g0 rfl rfl 3 (by decide) qw_18 inlX11 rfl dX11_move_53 (fun v42520 hv42520 ov42520 => ?_)
          obtain rfl : v42520 = .ref b42499 := hv42520.symm.trans hv42498
          refine t_get (C := RX1) (T := TX1) (N := 20) X hT mb42499 gb42499 rfl rfl 15 (by decide) qw_885 inlX1 rfl dX11_move_56 (fun v42521 hv42521 ov42521 => ?_)
          obtain rfl : v42521 = .ref b42501 := hv42521.symm.trans hv42500
          refine lv_iload_n hx hb dX11_move_59 rfl (lv_at hl 1 rfl) ?_
          refine t_ild X hT mb42501 gb42501 rfl (by omega) dX11_move_60 (fun z42522 vz42522 rz42522 => ?_)
          obtain rfl : z42502 = z42522 := vz42502.symm.trans vz42522
          refine lv_iload_n hx hb dX11_move_61 rfl (lv_at hl 2 rfl) ?_
          refine t_cVi (n := 2) (C := RX7) (T := TX7) (N := 7) (As := [.int z42502, .int p2]) (rest := []) X hT (kt19_X7_isOpen l G tag L F hT.2.2.2 b42509 z42502 p2 mb42509 gb42509) mb42509 gb42509 rfl rfl qw_1458 qw_984 qw_985 qw_22 qw_986 ⟨rfl, by decide +kernel, by decide +kernel, by decide +kernel⟩ ⟨Nat.le_of_ble_eq_true rfl, Nat.le_of_ble_eq_true rfl⟩ hl rfl rfl (Nat.le_of_ble_eq_true rfl) dX11_move_62 ⟨Nat.le_of_ble_eq_true rfl, Nat.le_of_ble_eq_true rfl⟩ (fun z42523 F9 H locs hT hz42523 => ?_)
          obtain ⟨fz42523, hz42523⟩ := hz42523
          rw [fz42523] at hT
          refine lv_if_ne (tgt := 74) hx hb dX11_move_65 (by decide) (fun c42524 => ?_) (fun c42524 => ?_)
          · have w42525 := cv_ne (rfl : z42523.toInt = z42523.toInt) (by decide : (0 : Int32).toInt = 0) c42524
            exact K74  _ _ _ _ (by omega) (by omega) hT hfr  (lv_sub hl [0, 1, 2] rfl)
          · have w42526 := cv_eq (rfl : z42523.toInt = z42523.toInt) (by decide : (0 : Int32).toInt = 0) c42524
            exact K68  _ _ _ _ (by omega) (by omega) hT hfr  (lv_sub hl [0, 1, 2] rfl)
    · have w42527 := cv_eq (rfl : z42503.toInt = z42503.toInt) (by decide : (0 : Int32).toInt = 0) c42504
      exact K25  _ _ _ _  hT hfr  (lv_sub hl [0, 1, 2] rfl)
set_option maxHeartbeats 4000000 in
set_option maxRecDepth 100000 in
theorem kt115_X9_wallAt (l : Launch) (G : KG) (tag : Nat → Nat) (L : List Nat) (Fo : Nat → va_E) (ho : okT G ttC tag L Fo) (p0 : Nat) (p1 : Nat) (p2 : Int32) (p3 : Int32) (p4 : Int32) (m0 : p0 ∈ L) (g0 : tag p0 = 22) (m1 : p1 ∈ L) (g1 : tag p1 = 18) (h4 : 0 ≤ p4.toInt ∧ p4.toInt ≤ 5) : TMi l yX9_wallAt cX9_wallAt 7 (some .int) { frames := 3, cells := 0, slots := 0, locals := 63 } G ttC tag L Fo [.ref p0, .ref p1, .int p2, .int p3, .int p4] (fun r F1 => ((-2) ≤ r.toInt ∧ r.toInt ≤ 5) ∧ ((∀ b j : Nat, fld F1 b j = fld Fo b j) ∧ EF tag F1 Fo)) := by
  refine t_bodyi (y := yX9_wallAt) (cd := cX9_wallAt) (mL := 7) (rt := (some .int)) (rm := { frames := 3, cells := 0, slots := 0, locals := 63 }) (av := [.ref p0, .ref p1, .int p2, .int p3, .int p4]) (by decide) (Nat.le_of_ble_eq_true rfl) ho ?_
  intro p e s m args below meth c ls A Q hQ X hT hl
  have hx := X.1.1
  have hb := X.1.2.1
  have hl : lv_has ls 7 [(0, .ref p0), (1, .ref p1), (2, .int p2), (3, .int p3), (4, .int p4)] := hl
  have rp2 := rg_all p2
  have rp3 := rg_all p3
  obtain ⟨F, hFo⟩ : ∃ F : Nat → va_E, F = Fo := ⟨_, rfl⟩
  rw [← hFo] at hT
  have hfr : (∀ b j : Nat, fld F b j = fld Fo b j) ∧ EF tag F Fo := by
    rw [hFo]
    exact ⟨by intros; rfl, fun _ _ _ => rfl⟩
  have K17 : ∀ (n : Nat) (z43595 : Int32) (z43596 : Int32) (z43597 : Int32) (F : Nat → va_E) (H : Heap) (locs : List Loc) (ls : Array Slot), (720 - z43596.toInt < (n : Int)) → (0 ≤ z43596.toInt ∧ z43596.toInt ≤ 720) → (0 ≤ z43597.toInt ∧ z43597.toInt ≤ 6) → TH G ttC A s tag L F H locs → ((∀ b j : Nat, fld F b j = fld Fo b j) ∧ EF tag F Fo) → fld F p1 16 = .int z43597 → lv_has ls 7 [(0, .ref p0), (1, .ref p1), (2, .int p2), (3, .int p3), (4, .int p4), (5, .int z43595), (6, .int z43596)] → W p l e { frames := 3, cells := 0, slots := 0, locals := 63 } s m args below meth c H locs 0 0 Q (F0 m 17 ls []) := by
    intro n
    induction n with
    | zero =>
      intro z43595 z43596 z43597 F H locs ls hn rz43596 rz43597 hT hfr qz43597 hl
      have rz43595 := rg_all z43595
      exfalso
      omega
    | succ n ih17 =>
      intro z43595 z43596 z43597 F H locs ls hn rz43596 rz43597 hT hfr qz43597 hl
      have rz43595 := rg_all z43595
      have K56 : ∀ (z43598 : Int32) (z43600 : Int32) (F : Nat → va_E) (H : Heap) (locs : List Loc) (ls : Array Slot), (0 ≤ z43600.toInt ∧ z43600.toInt ≤ 6) → (0 ≤ z43596.toInt ∧ z43596.toInt ≤ 719) → TH G ttC A s tag L F H locs → ((∀ b j : Nat, fld F b j = fld Fo b j) ∧ EF tag F Fo) → fld F p1 16 = .int z43600 → lv_has ls 7 [(0, .ref p0), (1, .ref p1), (2, .int p2), (3, .int p3), (4, .int p4), (5, .int z43598), (6, .int z43596)] → W p l e { frames := 3, cells := 0, slots := 0, locals := 63 } s m args below meth c H locs 0 0 Q (F0 m 56 ls []) := by
        intro z43598 z43600 F H locs ls rz43600 r9s43599 hT hfr qz43600 hl
        have rz43598 := rg_all z43598
        refine lv_aload_n hx hb dX9_wallAt_56 rfl (lv_at hl 0 rfl) ?_
        refine t_get (C := RX9) (T := TX9) (N := 6) X hT m0 g0 rfl rfl 0 (by decide) qw_93 inlX9 rfl dX9_wallAt_57 (fun v43601 hv43601 ov43601 => ?_)
        obtain ⟨b43602, rfl, mb43602, gb43602⟩ := okV_r ov43601
        have gb43602 : tag b43602 = 11 := tg_of gb43602
        refine lv_aload_n hx hb dX9_wallAt_60 rfl (lv_at hl 1 rfl) ?_
        refine t_get (C := RX1) (T := TX1) (N := 20) X hT m1 g1 rfl rfl 16 (by decide) qw_1338 inlX1 rfl dX9_wallAt_61 (fun v43603 hv43603 ov43603 => ?_)
        obtain rfl : v43603 = .int z43600 := hv43603.symm.trans qz43600
        refine t_cSv (n := 2) (As := [.ref b43602, .int z43600]) (rest := []) X hT (kt106_X5_advance l G tag L F hT.2.2.2 b43602 z43600 mb43602 gb43602 (by omega)) qw_1356 qw_1248 qw_1242 qw_1249 ⟨by decide +kernel, by decide +kernel, by decide +kernel⟩ ⟨Nat.le_of_ble_eq_true rfl, Nat.le_of_ble_eq_true rfl⟩ hl rfl rfl (Nat.le_of_ble_eq_true rfl) dX9_wallAt_64 ⟨Nat.le_of_ble_eq_true rfl, Nat.le_of_ble_eq_true rfl⟩ (fun F H locs hT hz43604 => ?_)
        have yz43604 := hz43604
        have qz43600 := (yz43604.1 _ 16 ).trans qz43600
        have hv43601 := (yz43604.1 _ 0 ).trans hv43601
        have hfr : (∀ b j : Nat, fld F b j = fld Fo b j) ∧ EF tag F Fo := ⟨fun b j  => (yz43604.1 b j ).trans (hfr.1 b j ), fun b j hb => (yz43604.2 b j hb).trans (hfr.2 b j hb)⟩
        obtain ⟨z43605, ez43605⟩ : ∃ y : Int32, y = z43596 + 1 := ⟨_, rfl⟩
        have hz43605 : z43605.toInt = z43596.toInt + 1 := ar_add ez43605 rfl (by decide : (1 : Int32).toInt = 1) (by omega) (by omega)
        refine lv_iinc (v := z43605) (lv' := [(6, .int z43605), (0, .ref p0), (1, .ref p1), (2, .int p2), (3, .int p3), (4, .int p4), (5, .int z43598)]) hx hb dX9_wallAt_67 hl (k := 6) rfl (by rw [ez43605]; rfl) (by decide) rfl (fun ls hl => ?_)
        refine lv_goto (tgt := 17) hx hb dX9_wallAt_70 (by decide) ?_
        exact ih17 z43598 z43605 z43600 _ _ _ _ (by omega) (by omega) (by omega) hT hfr qz43600 (lv_sub hl [1, 2, 3, 4, 5, 6, 0] rfl)
      refine lv_iload hx hb dX9_wallAt_17 (lv_at hl 6 rfl) ?_
      refine t_getsN X hT X.2.2.2.1.2.2.2.1 (List.mem_of_getElem? (i := 3) rfl) dX9_wallAt_19 ?_
      refine lv_aload_n hx hb dX9_wallAt_22 rfl (lv_at hl 1 rfl) ?_
      refine t_get (C := RX1) (T := TX1) (N := 20) X hT m1 g1 rfl rfl 16 (by decide) qw_1338 inlX1 rfl dX9_wallAt_23 (fun v43606 hv43606 ov43606 => ?_)
      obtain rfl : v43606 = .int z43597 := hv43606.symm.trans qz43597
      refine t_tild X hT X.2.2.2.1.2.2.2.1 (by omega) dX9_wallAt_26 (fun z43607 ez43607 => ?_)
      have rz43607 : 1 ≤ z43607.toInt ∧ z43607.toInt ≤ 720 := by rw [ez43607]; exact gRows_r _
      refine lv_icmp_ge (tgt := 73) hx hb dX9_wallAt_27 (by decide) (fun c43608 => ?_) (fun c43608 => ?_)
      · have w43609 := cv_le (rfl : z43607.toInt = z43607.toInt) (rfl : z43596.toInt = z43596.toInt) c43608
        refine lv_bipush (v := (-2)) hx hb dX9_wallAt_73 (by decide) ?_
        exact t_iret hQ X hT (⟨(by decide), hfr⟩) (Nat.le_of_ble_eq_true rfl) (Nat.le_of_ble_eq_true rfl) dX9_wallAt_75
      · have w43610 := cv_nle (rfl : z43607.toInt = z43607.toInt) (rfl : z43596.toInt = z43596.toInt) c43608
        refine lv_aload_n hx hb dX9_wallAt_30 rfl (lv_at hl 0 rfl) ?_
        refine lv_aload_n hx hb dX9_wallAt_31 rfl (lv_at hl 1 rfl) ?_
        refine lv_iload_n hx hb dX9_wallAt_32 rfl (lv_at hl 2 rfl) ?_
        refine t_cVi (n := 2) (C := RX9) (T := TX9) (N := 6) (As := [.ref p1, .int p2]) (rest := []) X hT (kt101_X9_canBe l G tag L F hT.2.2.2 p0 p1 p2 m0 g0 m1 g1) m0 g0 rfl rfl qw_1340 qw_1341 qw_1342 qw_40 qw_1343 ⟨rfl, by decide +kernel, by decide +kernel, by decide +kernel⟩ ⟨Nat.le_of_ble_eq_true rfl, Nat.le_of_ble_eq_true rfl⟩ hl rfl rfl (Nat.le_of_ble_eq_true rfl) dX9_wallAt_33 ⟨Nat.le_of_ble_eq_true rfl, Nat.le_of_ble_eq_true rfl⟩ (fun z43611 F H locs hT hz43611 => ?_)
        obtain ⟨hz43611, yz43611⟩ := hz43611
        have qz43597 := (yz43611.1 _ 16 ).trans qz43597
        have hfr : (∀ b j : Nat, fld F b j = fld Fo b j) ∧ EF tag F Fo := ⟨fun b j  => (yz43611.1 b j ).trans (hfr.1 b j ), fun b j hb => (yz43611.2 b j hb).trans (hfr.2 b j hb)⟩
        refine lv_if_eq (tgt := 56) hx hb dX9_wallAt_36 (by decide) (fun c43612 => ?_) (fun c43612 => ?_)
        · have w43613 := cv_eq (rfl : z43611.toInt = z43611.toInt) (by decide : (0 : Int32).toInt = 0) c43612
          exact K56 z43595 z43597 _ _ _ _ (by omega) (by omega) hT hfr qz43597 (lv_sub hl [0, 1, 2, 3, 4, 5, 6] rfl)
        · have w43614 := cv_ne (rfl : z43611.toInt = z43611.toInt) (by decide : (0 : Int32).toInt = 0) c43612
          refine lv_iload hx hb dX9_wallAt_39 (lv_at hl 5 rfl) ?_
          refine lv_iload_n hx hb dX9_wallAt_41 rfl (lv_at hl 3 rfl) ?_
          refine lv_icmp_ne (tgt := 53) hx hb dX9_wallAt_42 (by decide) (fun c43615 => ?_) (fun c43615 => ?_)
          · have w43616 := cv_ne (rfl : z43595.toInt = z43595.toInt) (rfl : p3.toInt = p3.toInt) c43615
            obtain ⟨z43617, ez43617⟩ : ∃ y : Int32, y = z43595 + 1 := ⟨_, rfl⟩
            have rz43617 := rg_all z43617
            refine lv_iinc (v := z43617) (lv' := [(5, .int z43617), (0, .ref p0), (1, .ref p1), (2, .int p2), (3, .int p3), (4, .int p4), (6, .int z43596)]) hx hb dX9_wallAt_53 hl (k := 5) rfl (by rw [ez43617]; rfl) (by decide) rfl (fun ls hl => ?_)
            exact K56 z43617 z43597 _ _ _ _ (by omega) (by omega) hT hfr qz43597 (lv_sub hl [1, 2, 3, 4, 5, 0, 6] rfl)
          · have w43618 := cv_eq (rfl : z43595.toInt = z43595.toInt) (rfl : p3.toInt = p3.toInt) c43615
            refine lv_aload_n hx hb dX9_wallAt_45 rfl (lv_at hl 0 rfl) ?_
            refine t_get (C := RX9) (T := TX9) (N := 6) X hT m0 g0 rfl rfl 0 (by decide) qw_93 inlX9 rfl dX9_wallAt_46 (fun v43619 hv43619 ov43619 => ?_)
            obtain ⟨b43620, rfl, mb43620, gb43620⟩ := okV_r ov43619
            have gb43620 : tag b43620 = 11 := tg_of gb43620
            refine lv_iload hx hb dX9_wallAt_49 (lv_at hl 4 rfl) ?_
            refine t_ild X hT mb43620 gb43620 rfl (by omega) dX9_wallAt_51 (fun z43621 vz43621 rz43621 => ?_)
            have rz43621 : 0 ≤ z43621.toInt ∧ z43621.toInt ≤ 5 := rz43621
            exact t_iret hQ X hT (⟨(by omega), hfr⟩) (Nat.le_of_ble_eq_true rfl) (Nat.le_of_ble_eq_true rfl) dX9_wallAt_52
  refine lv_iconst (v := 0) hx hb dX9_wallAt_0 (by decide) ?_
  refine lv_istore (lv' := [(5, .int 0), (0, .ref p0), (1, .ref p1), (2, .int p2), (3, .int p3), (4, .int p4)]) hx hb dX9_wallAt_1 hl (by decide) rfl (fun ls hl => ?_)
  refine lv_aload_n hx hb dX9_wallAt_3 rfl (lv_at hl 1 rfl) ?_
  refine t_get (C := RX9) (T := TX9) (N := 6) X hT m0 g0 rfl rfl 0 (by decide) qw_93 inlX9 rfl dX9_wallAt_4 (fun v43622 hv43622 ov43622 => ?_)
  obtain ⟨b43623, rfl, mb43623, gb43623⟩ := okV_r ov43622
  have gb43623 : tag b43623 = 11 := tg_of gb43623
  refine lv_aload_n hx hb dX9_wallAt_7 rfl (lv_at hl 2 rfl) ?_
  refine t_get (C := RX1) (T := TX1) (N := 20) X hT m1 g1 rfl rfl 16 (by decide) qw_1338 inlX1 rfl dX9_wallAt_8 (fun v43624 hv43624 ov43624 => ?_)
  obtain ⟨z43625, rfl, rz43625⟩ := okV_i ov43624
  refine t_cSv (n := 2) (As := [.ref b43623, .int z43625]) (rest := []) X hT (kt99_X5_begin l G tag L F hT.2.2.2 b43623 z43625 mb43623 gb43623 (by omega)) qw_1339 qw_1241 qw_1242 qw_1243 ⟨by decide +kernel, by decide +kernel, by decide +kernel⟩ ⟨Nat.le_of_ble_eq_true rfl, Nat.le_of_ble_eq_true rfl⟩ hl rfl rfl (Nat.le_of_ble_eq_true rfl) dX9_wallAt_11 ⟨Nat.le_of_ble_eq_true rfl, Nat.le_of_ble_eq_true rfl⟩ (fun F H locs hT hz43626 => ?_)
  have yz43626 := hz43626
  have hv43622 := (yz43626.1 _ 0 ).trans hv43622
  have hv43624 := (yz43626.1 _ 16 ).trans hv43624
  have hfr : (∀ b j : Nat, fld F b j = fld Fo b j) ∧ EF tag F Fo := ⟨fun b j  => (yz43626.1 b j ).trans (hfr.1 b j ), fun b j hb => (yz43626.2 b j hb).trans (hfr.2 b j hb)⟩
  refine lv_iconst (v := 0) hx hb dX9_wallAt_14 (by decide) ?_
  refine lv_istore (lv' := [(6, .int 0), (5, .int 0), (0, .ref p0), (1, .ref p1), (2, .int p2), (3, .int p3), (4, .int p4)]) hx hb dX9_wallAt_15 hl (by decide) rfl (fun ls hl => ?_)
  have kk43627 : (0 : Int32).toInt = 0 := by decide
  have kk43628 : (0 : Int32).toInt = 0 := by decide
  exact K17 721 0 0 z43625 _ _ _ _ (by omega) (by decide) (by omega) hT hfr hv43624 (lv_sub hl [2, 3, 4, 5, 6, 1, 0] rfl)
set_option maxHeartbeats 4000000 in
set_option maxRecDepth 100000 in
theorem kt116_X11_order (l : Launch) (G : KG) (tag : Nat → Nat) (L : List Nat) (Fo : Nat → va_E) (ho : okT G ttC tag L Fo) (p0 : Nat) (p1 : Int32) (p2 : Int32) (m0 : p0 ∈ L) (g0 : tag p0 = 26) : TMi l yX11_order cX11_order 4 (some .int) { frames := 4, cells := 0, slots := 0, locals := 89 } G ttC tag L Fo [.ref p0, .int p1, .int p2] (fun r F1 => ((-2147483648) ≤ r.toInt ∧ r.toInt ≤ 2147483647) ∧ ((∀ b j : Nat, (tag b ≠ 26 ∨ j ≠ 13) → fld F1 b j = fld Fo b j) ∧ EF tag F1 Fo)) := by
  refine t_bodyi (y := yX11_order) (cd := cX11_order) (mL := 4) (rt := (some .int)) (rm := { frames := 4, cells := 0, slots := 0, locals := 89 }) (av := [.ref p0, .int p1, .int p2]) (by decide) (Nat.le_of_ble_eq_true rfl) ho ?_
  intro p e s m args below meth c ls A Q hQ X hT hl
  have hx := X.1.1
  have hb := X.1.2.1
  have hl : lv_has ls 4 [(0, .ref p0), (1, .int p1), (2, .int p2)] := hl
  have rp1 := rg_all p1
  have rp2 := rg_all p2
  obtain ⟨F, hFo⟩ : ∃ F : Nat → va_E, F = Fo := ⟨_, rfl⟩
  rw [← hFo] at hT
  have hfr : (∀ b j : Nat, (tag b ≠ 26 ∨ j ≠ 13) → fld F b j = fld Fo b j) ∧ EF tag F Fo := by
    rw [hFo]
    exact ⟨by intros; rfl, fun _ _ _ => rfl⟩
  have K22 : ∀  (F : Nat → va_E) (H : Heap) (locs : List Loc) (ls : Array Slot), TH G ttC A s tag L F H locs → ((∀ b j : Nat, (tag b ≠ 26 ∨ j ≠ 13) → fld F b j = fld Fo b j) ∧ EF tag F Fo) → lv_has ls 4 [(0, .ref p0), (1, .int p1), (2, .int p2)] → W p l e { frames := 4, cells := 0, slots := 0, locals := 89 } s m args below meth c H locs 0 0 Q (F0 m 22 ls []) := by
    intro F H locs ls hT hfr hl
    refine lv_aload_n hx hb dX11_order_22 rfl (lv_at hl 0 rfl) ?_
    refine lv_iconst (v := 1) hx hb dX11_order_23 (by decide) ?_
    refine t_cVi (n := 1) (C := RX11) (T := TX11) (N := 16) (As := [.int 1]) (rest := []) X hT (kt63_X11_refuse l G tag L F hT.2.2.2 p0 1 m0 g0) m0 g0 rfl rfl qw_152 qw_153 qw_154 qw_2 qw_155 ⟨rfl, by decide +kernel, by decide +kernel, by decide +kernel⟩ ⟨Nat.le_of_ble_eq_true rfl, Nat.le_of_ble_eq_true rfl⟩ hl rfl rfl (Nat.le_of_ble_eq_true rfl) dX11_order_24 ⟨Nat.le_of_ble_eq_true rfl, Nat.le_of_ble_eq_true rfl⟩ (fun z43918 F H locs hT hz43918 => ?_)
    obtain ⟨hz43918, yz43918⟩ := hz43918
    have hfr : (∀ b j : Nat, (tag b ≠ 26 ∨ j ≠ 13) → fld F b j = fld Fo b j) ∧ EF tag F Fo := ⟨fun b j n26_13 => (yz43918.1 b j n26_13).trans (hfr.1 b j n26_13), fun b j hb => (yz43918.2 b j hb).trans (hfr.2 b j hb)⟩
    exact t_iret hQ X hT (⟨rg_all _, hfr⟩) (Nat.le_of_ble_eq_true rfl) (Nat.le_of_ble_eq_true rfl) dX11_order_27
  refine lv_aload_n hx hb dX11_order_0 rfl (lv_at hl 0 rfl) ?_
  refine lv_iload_n hx hb dX11_order_1 rfl (lv_at hl 2 rfl) ?_
  refine t_cVi (n := 1) (C := RX11) (T := TX11) (N := 16) (As := [.int p2]) (rest := []) X hT (kt92_X11_isWall l G tag L F hT.2.2.2 p0 p2 m0 g0) m0 g0 rfl rfl qw_1379 qw_1380 qw_1381 qw_2 qw_1382 ⟨rfl, by decide +kernel, by decide +kernel, by decide +kernel⟩ ⟨Nat.le_of_ble_eq_true rfl, Nat.le_of_ble_eq_true rfl⟩ hl rfl rfl (Nat.le_of_ble_eq_true rfl) dX11_order_2 ⟨Nat.le_of_ble_eq_true rfl, Nat.le_of_ble_eq_true rfl⟩ (fun z43919 F9 H locs hT hz43919 => ?_)
  obtain ⟨fz43919, hz43919⟩ := hz43919
  rw [fz43919] at hT
  obtain ⟨hz43919, iz43919⟩ := hz43919
  refine lv_if_eq (tgt := 22) hx hb dX11_order_5 (by decide) (fun c43920 => ?_) (fun c43920 => ?_)
  · have w43921 := cv_eq (rfl : z43919.toInt = z43919.toInt) (by decide : (0 : Int32).toInt = 0) c43920
    exact K22  _ _ _ _  hT hfr  (lv_sub hl [0, 1, 2] rfl)
  · have w43922 := cv_ne (rfl : z43919.toInt = z43919.toInt) (by decide : (0 : Int32).toInt = 0) c43920
    have w43923 := (fun h => (iz43919 h)) (by omega)
    refine lv_iload_n hx hb dX11_order_8 rfl (lv_at hl 1 rfl) ?_
    refine lv_if_lt (tgt := 22) hx hb dX11_order_9 (by decide) (fun c43924 => ?_) (fun c43924 => ?_)
    · have w43925 := cv_lt (rfl : p1.toInt = p1.toInt) (by decide : (0 : Int32).toInt = 0) c43924
      exact K22  _ _ _ _  hT hfr  (lv_sub hl [0, 1, 2] rfl)
    · have w43926 := cv_nlt (rfl : p1.toInt = p1.toInt) (by decide : (0 : Int32).toInt = 0) c43924
      refine lv_iload_n hx hb dX11_order_12 rfl (lv_at hl 1 rfl) ?_
      refine t_gets X hT X.2.2.2.1.2.2.2.1 qw_1378 dX11_order_13 ?_
      refine lv_bipush (v := 6) hx hb dX11_order_16 (by decide) ?_
      refine t_tild X hT X.2.2.2.1.2.2.2.1 (by decide) dX11_order_18 (fun z43927 ez43927 => ?_)
      have rz43927 : 1 ≤ z43927.toInt ∧ z43927.toInt ≤ 720 := by rw [ez43927]; exact gRows_r _
      refine lv_icmp_lt (tgt := 28) hx hb dX11_order_19 (by decide) (fun c43928 => ?_) (fun c43928 => ?_)
      · have w43929 := cv_lt (rfl : p1.toInt = p1.toInt) (rfl : z43927.toInt = z43927.toInt) c43928
        refine lv_aload_n hx hb dX11_order_28 rfl (lv_at hl 0 rfl) ?_
        refine t_get (C := RX11) (T := TX11) (N := 16) X hT m0 g0 rfl rfl 11 (by decide) qw_41 inlX11 rfl dX11_order_29 (fun v43930 hv43930 ov43930 => ?_)
        obtain ⟨b43931, rfl, mb43931, gb43931⟩ := okV_r ov43930
        have gb43931 : tag b43931 = 22 := tg_of gb43931
        refine lv_aload_n hx hb dX11_order_32 rfl (lv_at hl 0 rfl) ?_
        refine t_get (C := RX11) (T := TX11) (N := 16) X hT m0 g0 rfl rfl 3 (by decide) qw_18 inlX11 rfl dX11_order_33 (fun v43932 hv43932 ov43932 => ?_)
        obtain ⟨b43933, rfl, mb43933, gb43933⟩ := okV_r ov43932
        have gb43933 : tag b43933 = 18 := tg_of gb43933
        refine lv_aload_n hx hb dX11_order_36 rfl (lv_at hl 0 rfl) ?_
        refine t_get (C := RX11) (T := TX11) (N := 16) X hT m0 g0 rfl rfl 5 (by decide) qw_23 inlX11 rfl dX11_order_37 (fun v43934 hv43934 ov43934 => ?_)
        obtain ⟨b43935, rfl, mb43935, gb43935⟩ := okV_r ov43934
        have gb43935 : tag b43935 = 19 := tg_of gb43935
        refine t_get (C := RX7) (T := TX7) (N := 7) X hT mb43935 gb43935 rfl rfl 0 (by decide) qw_1225 inlX7 rfl dX11_order_40 (fun v43936 hv43936 ov43936 => ?_)
        obtain ⟨z43937, rfl, rz43937⟩ := okV_i ov43936
        refine lv_iload_n hx hb dX11_order_43 rfl (lv_at hl 1 rfl) ?_
        refine lv_iload_n hx hb dX11_order_44 rfl (lv_at hl 2 rfl) ?_
        refine t_cVi (n := 4) (C := RX9) (T := TX9) (N := 6) (As := [.ref b43933, .int z43937, .int p1, .int p2]) (rest := []) X hT (kt115_X9_wallAt l G tag L F hT.2.2.2 b43931 b43933 z43937 p1 p2 mb43931 gb43931 mb43933 gb43933 (by omega)) mb43931 gb43931 rfl rfl qw_1384 qw_1385 qw_1386 qw_40 qw_1387 ⟨rfl, by decide +kernel, by decide +kernel, by decide +kernel⟩ ⟨Nat.le_of_ble_eq_true rfl, Nat.le_of_ble_eq_true rfl⟩ hl rfl rfl (Nat.le_of_ble_eq_true rfl) dX11_order_45 ⟨Nat.le_of_ble_eq_true rfl, Nat.le_of_ble_eq_true rfl⟩ (fun z43938 F H locs hT hz43938 => ?_)
        obtain ⟨hz43938, yz43938⟩ := hz43938
        have hv43930 := (yz43938.1 _ 11 ).trans hv43930
        have hv43932 := (yz43938.1 _ 3 ).trans hv43932
        have hv43934 := (yz43938.1 _ 5 ).trans hv43934
        have hv43936 := (yz43938.1 _ 0 ).trans hv43936
        have hfr : (∀ b j : Nat, (tag b ≠ 26 ∨ j ≠ 13) → fld F b j = fld Fo b j) ∧ EF tag F Fo := ⟨fun b j n26_13 => (yz43938.1 b j ).trans (hfr.1 b j n26_13), fun b j hb => (yz43938.2 b j hb).trans (hfr.2 b j hb)⟩
        refine lv_istore_n (lv' := [(3, .int z43938), (0, .ref p0), (1, .int p1), (2, .int p2)]) hx hb dX11_order_48 rfl hl (by decide) rfl (fun ls hl => ?_)
        refine lv_iload_n hx hb dX11_order_49 rfl (lv_at hl 0 rfl) ?_
        refine lv_bipush (v := (-2)) hx hb dX11_order_50 (by decide) ?_
        refine lv_icmp_ne (tgt := 63) hx hb dX11_order_52 (by decide) (fun c43939 => ?_) (fun c43939 => ?_)
        · have w43940 := cv_ne (rfl : z43938.toInt = z43938.toInt) (by decide : ((-2) : Int32).toInt = (-2)) c43939
          refine lv_aload_n hx hb dX11_order_63 rfl (lv_at hl 1 rfl) ?_
          refine lv_iload_n hx hb dX11_order_64 rfl (lv_at hl 0 rfl) ?_
          refine t_cVi (n := 1) (C := RX11) (T := TX11) (N := 16) (As := [.int z43938]) (rest := []) X hT (kt56_X11_answer l G tag L F hT.2.2.2 p0 z43938 m0 g0) m0 g0 rfl rfl qw_463 qw_464 qw_465 qw_2 qw_466 ⟨rfl, by decide +kernel, by decide +kernel, by decide +kernel⟩ ⟨Nat.le_of_ble_eq_true rfl, Nat.le_of_ble_eq_true rfl⟩ hl rfl rfl (Nat.le_of_ble_eq_true rfl) dX11_order_65 ⟨Nat.le_of_ble_eq_true rfl, Nat.le_of_ble_eq_true rfl⟩ (fun z43941 F H locs hT hz43941 => ?_)
          obtain ⟨hz43941, yz43941⟩ := hz43941
          have hv43930 := (yz43941.1 _ 11 (Or.inr (by decide))).trans hv43930
          have hv43932 := (yz43941.1 _ 3 (Or.inr (by decide))).trans hv43932
          have hv43934 := (yz43941.1 _ 5 (Or.inr (by decide))).trans hv43934
          have hv43936 := (yz43941.1 _ 0 (Or.inr (by decide))).trans hv43936
          have hfr : (∀ b j : Nat, (tag b ≠ 26 ∨ j ≠ 13) → fld F b j = fld Fo b j) ∧ EF tag F Fo := ⟨fun b j n26_13 => (yz43941.1 b j n26_13).trans (hfr.1 b j n26_13), fun b j hb => (yz43941.2 b j hb).trans (hfr.2 b j hb)⟩
          exact t_iret hQ X hT (⟨rg_all _, hfr⟩) (Nat.le_of_ble_eq_true rfl) (Nat.le_of_ble_eq_true rfl) dX11_order_68
        · have w43942 := cv_eq (rfl : z43938.toInt = z43938.toInt) (by decide : ((-2) : Int32).toInt = (-2)) c43939
          refine lv_aload_n hx hb dX11_order_55 rfl (lv_at hl 1 rfl) ?_
          refine lv_iconst (v := 1) hx hb dX11_order_56 (by decide) ?_
          refine t_cVi (n := 1) (C := RX11) (T := TX11) (N := 16) (As := [.int 1]) (rest := []) X hT (kt63_X11_refuse l G tag L F hT.2.2.2 p0 1 m0 g0) m0 g0 rfl rfl qw_152 qw_153 qw_154 qw_2 qw_155 ⟨rfl, by decide +kernel, by decide +kernel, by decide +kernel⟩ ⟨Nat.le_of_ble_eq_true rfl, Nat.le_of_ble_eq_true rfl⟩ hl rfl rfl (Nat.le_of_ble_eq_true rfl) dX11_order_57 ⟨Nat.le_of_ble_eq_true rfl, Nat.le_of_ble_eq_true rfl⟩ (fun z43943 F H locs hT hz43943 => ?_)
          obtain ⟨hz43943, yz43943⟩ := hz43943
          have hv43930 := (yz43943.1 _ 11 (Or.inr (by decide))).trans hv43930
          have hv43932 := (yz43943.1 _ 3 (Or.inr (by decide))).trans hv43932
          have hv43934 := (yz43943.1 _ 5 (Or.inr (by decide))).trans hv43934
          have hv43936 := (yz43943.1 _ 0 (Or.inr (by decide))).trans hv43936
          have hfr : (∀ b j : Nat, (tag b ≠ 26 ∨ j ≠ 13) → fld F b j = fld Fo b j) ∧ EF tag F Fo := ⟨fun b j n26_13 => (yz43943.1 b j n26_13).trans (hfr.1 b j n26_13), fun b j hb => (yz43943.2 b j hb).trans (hfr.2 b j hb)⟩
          refine lv_goto (tgt := 68) hx hb dX11_order_60 (by decide) ?_
          exact t_iret hQ X hT (⟨rg_all _, hfr⟩) (Nat.le_of_ble_eq_true rfl) (Nat.le_of_ble_eq_true rfl) dX11_order_68
      · have w43944 := cv_nlt (rfl : p1.toInt = p1.toInt) (rfl : z43927.toInt = z43927.toInt) c43928
        exact K22  _ _ _ _  hT hfr  (lv_sub hl [0, 1, 2] rfl)
set_option maxHeartbeats 4000000 in
set_option maxRecDepth 100000 in
theorem kt117_X11_orders (l : Launch) (G : KG) (tag : Nat → Nat) (L : List Nat) (Fo : Nat → va_E) (ho : okT G ttC tag L Fo) (p0 : Nat) (m0 : p0 ∈ L) (g0 : tag p0 = 26) : TMi l yX11_orders cX11_orders 1 (some .int) { frames := 4, cells := 0, slots := 0, locals := 86 } G ttC tag L Fo [.ref p0] (fun r F1 => ((-2147483648) ≤ r.toInt ∧ r.toInt ≤ 2147483647) ∧ ((∀ b j : Nat, (tag b ≠ 22 ∨ j ≠ 2) → (tag b ≠ 26 ∨ j ≠ 13) → fld F1 b j = fld Fo b j) ∧ EF tag F1 Fo)) := by
  refine t_bodyi (y := yX11_orders) (cd := cX11_orders) (mL := 1) (rt := (some .int)) (rm := { frames := 4, cells := 0, slots := 0, locals := 86 }) (av := [.ref p0]) (by decide) (Nat.le_of_ble_eq_true rfl) ho ?_
  intro p e s m args below meth c ls A Q hQ X hT hl
  have hx := X.1.1
  have hb := X.1.2.1
  have hl : lv_has ls 1 [(0, .ref p0)] := hl
  obtain ⟨F, hFo⟩ : ∃ F : Nat → va_E, F = Fo := ⟨_, rfl⟩
  rw [← hFo] at hT
  have hfr : (∀ b j : Nat, (tag b ≠ 22 ∨ j ≠ 2) → (tag b ≠ 26 ∨ j ≠ 13) → fld F b j = fld Fo b j) ∧ EF tag F Fo := by
    rw [hFo]
    exact ⟨by intros; rfl, fun _ _ _ => rfl⟩
  refine lv_aload_n hx hb dX11_orders_0 rfl (lv_at hl 0 rfl) ?_
  refine t_get (C := RX11) (T := TX11) (N := 16) X hT m0 g0 rfl rfl 2 (by decide) qw_150 inlX11 rfl dX11_orders_1 (fun v44154 hv44154 ov44154 => ?_)
  obtain ⟨z44155, rfl, rz44155⟩ := okV_i ov44154
  refine lv_if_ne (tgt := 13) hx hb dX11_orders_4 (by decide) (fun c44156 => ?_) (fun c44156 => ?_)
  · have w44157 := cv_ne (rfl : z44155.toInt = z44155.toInt) (by decide : (0 : Int32).toInt = 0) c44156
    refine lv_aload_n hx hb dX11_orders_13 rfl (lv_at hl 0 rfl) ?_
    refine t_get (C := RX11) (T := TX11) (N := 16) X hT m0 g0 rfl rfl 11 (by decide) qw_41 inlX11 rfl dX11_orders_14 (fun v44158 hv44158 ov44158 => ?_)
    obtain ⟨b44159, rfl, mb44159, gb44159⟩ := okV_r ov44158
    have gb44159 : tag b44159 = 22 := tg_of gb44159
    refine lv_aload_n hx hb dX11_orders_17 rfl (lv_at hl 0 rfl) ?_
    refine t_get (C := RX11) (T := TX11) (N := 16) X hT m0 g0 rfl rfl 3 (by decide) qw_18 inlX11 rfl dX11_orders_18 (fun v44160 hv44160 ov44160 => ?_)
    obtain ⟨b44161, rfl, mb44161, gb44161⟩ := okV_r ov44160
    have gb44161 : tag b44161 = 18 := tg_of gb44161
    refine lv_aload_n hx hb dX11_orders_21 rfl (lv_at hl 0 rfl) ?_
    refine t_get (C := RX11) (T := TX11) (N := 16) X hT m0 g0 rfl rfl 5 (by decide) qw_23 inlX11 rfl dX11_orders_22 (fun v44162 hv44162 ov44162 => ?_)
    obtain ⟨b44163, rfl, mb44163, gb44163⟩ := okV_r ov44162
    have gb44163 : tag b44163 = 19 := tg_of gb44163
    refine t_get (C := RX7) (T := TX7) (N := 7) X hT mb44163 gb44163 rfl rfl 0 (by decide) qw_1225 inlX7 rfl dX11_orders_25 (fun v44164 hv44164 ov44164 => ?_)
    obtain ⟨z44165, rfl, rz44165⟩ := okV_i ov44164
    refine t_cVv (n := 2) (C := RX9) (T := TX9) (N := 6) (As := [.ref b44161, .int z44165]) (rest := []) X hT (kt107_X9_lookAtAll l G tag L F hT.2.2.2 b44159 b44161 z44165 mb44159 gb44159 mb44161 gb44161) mb44159 gb44159 rfl rfl qw_1333 qw_1334 qw_1335 qw_40 qw_1336 ⟨rfl, by decide +kernel, by decide +kernel, by decide +kernel⟩ ⟨Nat.le_of_ble_eq_true rfl, Nat.le_of_ble_eq_true rfl⟩ hl rfl rfl (Nat.le_of_ble_eq_true rfl) dX11_orders_28 ⟨Nat.le_of_ble_eq_true rfl, Nat.le_of_ble_eq_true rfl⟩ (fun F H locs hT hz44166 => ?_)
    have yz44166 := hz44166
    have hv44154 := (yz44166.1 _ 2 (Or.inl (by rw [g0]; decide))).trans hv44154
    have hv44158 := (yz44166.1 _ 11 (Or.inr (by decide))).trans hv44158
    have hv44160 := (yz44166.1 _ 3 (Or.inr (by decide))).trans hv44160
    have hv44162 := (yz44166.1 _ 5 (Or.inr (by decide))).trans hv44162
    have hv44164 := (yz44166.1 _ 0 (Or.inr (by decide))).trans hv44164
    have hfr : (∀ b j : Nat, (tag b ≠ 22 ∨ j ≠ 2) → (tag b ≠ 26 ∨ j ≠ 13) → fld F b j = fld Fo b j) ∧ EF tag F Fo := ⟨fun b j n22_2 n26_13 => (yz44166.1 b j n22_2).trans (hfr.1 b j n22_2 n26_13), fun b j hb => (yz44166.2 b j hb).trans (hfr.2 b j hb)⟩
    refine lv_aload_n hx hb dX11_orders_31 rfl (lv_at hl 0 rfl) ?_
    refine lv_aload_n hx hb dX11_orders_32 rfl (lv_at hl 0 rfl) ?_
    refine t_get (C := RX11) (T := TX11) (N := 16) X hT m0 g0 rfl rfl 11 (by decide) qw_41 inlX11 rfl dX11_orders_33 (fun v44167 hv44167 ov44167 => ?_)
    obtain rfl : v44167 = .ref b44159 := hv44167.symm.trans hv44158
    refine t_get (C := RX9) (T := TX9) (N := 6) X hT mb44159 gb44159 rfl rfl 2 (by decide) qw_1332 inlX9 rfl dX11_orders_36 (fun v44168 hv44168 ov44168 => ?_)
    obtain ⟨z44169, rfl, rz44169⟩ := okV_i ov44168
    refine t_cVi (n := 1) (C := RX11) (T := TX11) (N := 16) (As := [.int z44169]) (rest := []) X hT (kt56_X11_answer l G tag L F hT.2.2.2 p0 z44169 m0 g0) m0 g0 rfl rfl qw_463 qw_464 qw_465 qw_2 qw_466 ⟨rfl, by decide +kernel, by decide +kernel, by decide +kernel⟩ ⟨Nat.le_of_ble_eq_true rfl, Nat.le_of_ble_eq_true rfl⟩ hl rfl rfl (Nat.le_of_ble_eq_true rfl) dX11_orders_39 ⟨Nat.le_of_ble_eq_true rfl, Nat.le_of_ble_eq_true rfl⟩ (fun z44170 F H locs hT hz44170 => ?_)
    obtain ⟨hz44170, yz44170⟩ := hz44170
    have hv44154 := (yz44170.1 _ 2 (Or.inr (by decide))).trans hv44154
    have hv44158 := (yz44170.1 _ 11 (Or.inr (by decide))).trans hv44158
    have hv44160 := (yz44170.1 _ 3 (Or.inr (by decide))).trans hv44160
    have hv44162 := (yz44170.1 _ 5 (Or.inr (by decide))).trans hv44162
    have hv44164 := (yz44170.1 _ 0 (Or.inr (by decide))).trans hv44164
    have hv44168 := (yz44170.1 _ 2 (Or.inr (by decide))).trans hv44168
    have hfr : (∀ b j : Nat, (tag b ≠ 22 ∨ j ≠ 2) → (tag b ≠ 26 ∨ j ≠ 13) → fld F b j = fld Fo b j) ∧ EF tag F Fo := ⟨fun b j n22_2 n26_13 => (yz44170.1 b j n26_13).trans (hfr.1 b j n22_2 n26_13), fun b j hb => (yz44170.2 b j hb).trans (hfr.2 b j hb)⟩
    exact t_iret hQ X hT (⟨rg_all _, hfr⟩) (Nat.le_of_ble_eq_true rfl) (Nat.le_of_ble_eq_true rfl) dX11_orders_42
  · have w44171 := cv_eq (rfl : z44155.toInt = z44155.toInt) (by decide : (0 : Int32).toInt = 0) c44156
    refine lv_aload_n hx hb dX11_orders_7 rfl (lv_at hl 0 rfl) ?_
    refine lv_iconst (v := 1) hx hb dX11_orders_8 (by decide) ?_
    refine t_cVi (n := 1) (C := RX11) (T := TX11) (N := 16) (As := [.int 1]) (rest := []) X hT (kt63_X11_refuse l G tag L F hT.2.2.2 p0 1 m0 g0) m0 g0 rfl rfl qw_152 qw_153 qw_154 qw_2 qw_155 ⟨rfl, by decide +kernel, by decide +kernel, by decide +kernel⟩ ⟨Nat.le_of_ble_eq_true rfl, Nat.le_of_ble_eq_true rfl⟩ hl rfl rfl (Nat.le_of_ble_eq_true rfl) dX11_orders_9 ⟨Nat.le_of_ble_eq_true rfl, Nat.le_of_ble_eq_true rfl⟩ (fun z44172 F H locs hT hz44172 => ?_)
    obtain ⟨hz44172, yz44172⟩ := hz44172
    have hv44154 := (yz44172.1 _ 2 (Or.inr (by decide))).trans hv44154
    have hfr : (∀ b j : Nat, (tag b ≠ 22 ∨ j ≠ 2) → (tag b ≠ 26 ∨ j ≠ 13) → fld F b j = fld Fo b j) ∧ EF tag F Fo := ⟨fun b j n22_2 n26_13 => (yz44172.1 b j n26_13).trans (hfr.1 b j n22_2 n26_13), fun b j hb => (yz44172.2 b j hb).trans (hfr.2 b j hb)⟩
    exact t_iret hQ X hT (⟨rg_all _, hfr⟩) (Nat.le_of_ble_eq_true rfl) (Nat.le_of_ble_eq_true rfl) dX11_orders_12
set_option maxHeartbeats 4000000 in
set_option maxRecDepth 100000 in
theorem kt118_X11_room (l : Launch) (G : KG) (tag : Nat → Nat) (L : List Nat) (Fo : Nat → va_E) (ho : okT G ttC tag L Fo) (p0 : Nat) (p1 : Int32) (m0 : p0 ∈ L) (g0 : tag p0 = 26) : TMi l yX11_room cX11_room 5 (some .int) { frames := 4, cells := 0, slots := 0, locals := 108 } G ttC tag L Fo [.ref p0, .int p1] (fun r F1 => ((-2147483648) ≤ r.toInt ∧ r.toInt ≤ 2147483647) ∧ ((∀ b j : Nat, (tag b ≠ 19 ∨ j ≠ 0) → (tag b ≠ 19 ∨ j ≠ 1) → (tag b ≠ 26 ∨ j ≠ 13) → fld F1 b j = fld Fo b j) ∧ EF tag F1 Fo)) := by
  refine t_bodyi (y := yX11_room) (cd := cX11_room) (mL := 5) (rt := (some .int)) (rm := { frames := 4, cells := 0, slots := 0, locals := 108 }) (av := [.ref p0, .int p1]) (by decide) (Nat.le_of_ble_eq_true rfl) ho ?_
  intro p e s m args below meth c ls A Q hQ X hT hl
  have hx := X.1.1
  have hb := X.1.2.1
  have hl : lv_has ls 5 [(0, .ref p0), (1, .int p1)] := hl
  have rp1 := rg_all p1
  obtain ⟨F, hFo⟩ : ∃ F : Nat → va_E, F = Fo := ⟨_, rfl⟩
  rw [← hFo] at hT
  have hfr : (∀ b j : Nat, (tag b ≠ 19 ∨ j ≠ 0) → (tag b ≠ 19 ∨ j ≠ 1) → (tag b ≠ 26 ∨ j ≠ 13) → fld F b j = fld Fo b j) ∧ EF tag F Fo := by
    rw [hFo]
    exact ⟨by intros; rfl, fun _ _ _ => rfl⟩
  have K29 : ∀ (n : Nat) (z45544 : Int32) (z45545 : Int32) (F : Nat → va_E) (H : Heap) (locs : List Loc) (ls : Array Slot), (6 - z45545.toInt < (n : Int)) → (0 ≤ z45545.toInt ∧ z45545.toInt ≤ 6) → (0 ≤ p1.toInt ∧ p1.toInt ≤ 3) → TH G ttC A s tag L F H locs → ((∀ b j : Nat, (tag b ≠ 19 ∨ j ≠ 0) → (tag b ≠ 19 ∨ j ≠ 1) → (tag b ≠ 26 ∨ j ≠ 13) → fld F b j = fld Fo b j) ∧ EF tag F Fo) → lv_has ls 5 [(0, .ref p0), (1, .int p1), (2, .int z45544), (3, .int z45545)] → W p l e { frames := 4, cells := 0, slots := 0, locals := 108 } s m args below meth c H locs 0 0 Q (F0 m 29 ls []) := by
    intro n
    induction n with
    | zero =>
      intro z45544 z45545 F H locs ls hn rz45545 r9s45543 hT hfr hl
      have rz45544 := rg_all z45544
      exfalso
      omega
    | succ n ih29 =>
      intro z45544 z45545 F H locs ls hn rz45545 r9s45543 hT hfr hl
      have rz45544 := rg_all z45544
      have K67 : ∀ (z45547 : Int32) (F : Nat → va_E) (H : Heap) (locs : List Loc) (ls : Array Slot), ((-2) ≤ z45547.toInt ∧ z45547.toInt ≤ 900) → (0 ≤ z45545.toInt ∧ z45545.toInt ≤ 5) → TH G ttC A s tag L F H locs → ((∀ b j : Nat, (tag b ≠ 19 ∨ j ≠ 0) → (tag b ≠ 19 ∨ j ≠ 1) → (tag b ≠ 26 ∨ j ≠ 13) → fld F b j = fld Fo b j) ∧ EF tag F Fo) → lv_has ls 5 [(0, .ref p0), (1, .int p1), (2, .int z45544), (3, .int z45545)] → W p l e { frames := 4, cells := 0, slots := 0, locals := 108 } s m args below meth c H locs 0 0 Q (F0 m 67 ls [.int z45547]) := by
        intro z45547 F H locs ls rz45547 r9s45546 hT hfr hl
        refine lv_istore (lv' := [(4, .int z45547), (0, .ref p0), (1, .int p1), (2, .int z45544), (3, .int z45545)]) hx hb dX11_room_67 hl (by decide) rfl (fun ls hl => ?_)
        refine lv_iload hx hb dX11_room_69 (lv_at hl 0 rfl) ?_
        refine lv_bipush (v := (-2)) hx hb dX11_room_71 (by decide) ?_
        refine lv_icmp_ne (tgt := 82) hx hb dX11_room_73 (by decide) (fun c45548 => ?_) (fun c45548 => ?_)
        · have w45549 := cv_ne (rfl : z45547.toInt = z45547.toInt) (by decide : ((-2) : Int32).toInt = (-2)) c45548
          refine lv_aload_n hx hb dX11_room_82 rfl (lv_at hl 1 rfl) ?_
          refine t_get (C := RX11) (T := TX11) (N := 16) X hT m0 g0 rfl rfl 7 (by decide) qw_25 inlX11 rfl dX11_room_83 (fun v45550 hv45550 ov45550 => ?_)
          obtain ⟨b45551, rfl, mb45551, gb45551⟩ := okV_r ov45550
          have gb45551 : tag b45551 = 19 := tg_of gb45551
          refine lv_iload_n hx hb dX11_room_86 rfl (lv_at hl 2 rfl) ?_
          refine lv_iconst (v := 0) hx hb dX11_room_87 (by decide) ?_
          refine lv_iload hx hb dX11_room_88 (lv_at hl 0 rfl) ?_
          refine lv_bipush (v := 100) hx hb dX11_room_90 (by decide) ?_
          refine lv_idiv hx hb dX11_room_92 (by decide) ?_
          refine lv_topi (fun z45552 ez45552 => ?_)
          have rz45552 := rg_all z45552
          refine lv_iload hx hb dX11_room_93 (lv_at hl 0 rfl) ?_
          refine lv_bipush (v := 100) hx hb dX11_room_95 (by decide) ?_
          refine lv_irem hx hb dX11_room_97 (by decide) ?_
          refine lv_topi (fun z45553 ez45553 => ?_)
          have rz45553 := rg_all z45553
          refine lv_iconst (v := 0) hx hb dX11_room_98 (by decide) ?_
          refine lv_aload_n hx hb dX11_room_99 rfl (lv_at hl 1 rfl) ?_
          refine t_get (C := RX11) (T := TX11) (N := 16) X hT m0 g0 rfl rfl 7 (by decide) qw_25 inlX11 rfl dX11_room_100 (fun v45554 hv45554 ov45554 => ?_)
          obtain rfl : v45554 = .ref b45551 := hv45554.symm.trans hv45550
          refine t_get (C := RX7) (T := TX7) (N := 7) X hT mb45551 gb45551 rfl rfl 0 (by decide) qw_1225 inlX7 rfl dX11_room_103 (fun v45555 hv45555 ov45555 => ?_)
          obtain ⟨z45556, rfl, rz45556⟩ := okV_i ov45555
          refine t_cVv (n := 6) (C := RX7) (T := TX7) (N := 7) (As := [.int p1, .int 0, .int z45552, .int z45553, .int 0, .int z45556]) (rest := []) X hT (kt17_X7_addSkin l G tag L F hT.2.2.2 b45551 p1 0 z45552 z45553 0 z45556 mb45551 gb45551 (by omega)) mb45551 gb45551 rfl rfl qw_1226 qw_419 qw_420 qw_22 qw_421 ⟨rfl, by decide +kernel, by decide +kernel, by decide +kernel⟩ ⟨Nat.le_of_ble_eq_true rfl, Nat.le_of_ble_eq_true rfl⟩ hl rfl rfl (Nat.le_of_ble_eq_true rfl) dX11_room_106 ⟨Nat.le_of_ble_eq_true rfl, Nat.le_of_ble_eq_true rfl⟩ (fun F H locs hT hz45557 => ?_)
          have yz45557 := hz45557
          have hv45550 := (yz45557.1 _ 7 ).trans hv45550
          have hv45555 := (yz45557.1 _ 0 ).trans hv45555
          have hfr : (∀ b j : Nat, (tag b ≠ 19 ∨ j ≠ 0) → (tag b ≠ 19 ∨ j ≠ 1) → (tag b ≠ 26 ∨ j ≠ 13) → fld F b j = fld Fo b j) ∧ EF tag F Fo := ⟨fun b j n19_0 n19_1 n26_13 => (yz45557.1 b j ).trans (hfr.1 b j n19_0 n19_1 n26_13), fun b j hb => (yz45557.2 b j hb).trans (hfr.2 b j hb)⟩
          obtain ⟨z45558, ez45558⟩ : ∃ y : Int32, y = z45544 + 1 := ⟨_, rfl⟩
          have rz45558 := rg_all z45558
          refine lv_iinc (v := z45558) (lv' := [(2, .int z45558), (4, .int z45547), (0, .ref p0), (1, .int p1), (3, .int z45545)]) hx hb dX11_room_109 hl (k := 3) rfl (by rw [ez45558]; rfl) (by decide) rfl (fun ls hl => ?_)
          obtain ⟨z45559, ez45559⟩ : ∃ y : Int32, y = z45545 + 1 := ⟨_, rfl⟩
          have hz45559 : z45559.toInt = z45545.toInt + 1 := ar_add ez45559 rfl (by decide : (1 : Int32).toInt = 1) (by omega) (by omega)
          refine lv_iinc (v := z45559) (lv' := [(3, .int z45559), (2, .int z45558), (4, .int z45547), (0, .ref p0), (1, .int p1)]) hx hb dX11_room_112 hl (k := 4) rfl (by rw [ez45559]; rfl) (by decide) rfl (fun ls hl => ?_)
          refine lv_goto (tgt := 29) hx hb dX11_room_115 (by decide) ?_
          exact ih29 z45558 z45559 _ _ _ _ (by omega) (by omega) (by omega) hT hfr  (lv_sub hl [3, 4, 1, 0] rfl)
        · have w45560 := cv_eq (rfl : z45547.toInt = z45547.toInt) (by decide : ((-2) : Int32).toInt = (-2)) c45548
          refine lv_aload_n hx hb dX11_room_76 rfl (lv_at hl 1 rfl) ?_
          refine lv_iload_n hx hb dX11_room_77 rfl (lv_at hl 3 rfl) ?_
          refine t_cVi (n := 1) (C := RX11) (T := TX11) (N := 16) (As := [.int z45544]) (rest := []) X hT (kt56_X11_answer l G tag L F hT.2.2.2 p0 z45544 m0 g0) m0 g0 rfl rfl qw_463 qw_464 qw_465 qw_2 qw_466 ⟨rfl, by decide +kernel, by decide +kernel, by decide +kernel⟩ ⟨Nat.le_of_ble_eq_true rfl, Nat.le_of_ble_eq_true rfl⟩ hl rfl rfl (Nat.le_of_ble_eq_true rfl) dX11_room_78 ⟨Nat.le_of_ble_eq_true rfl, Nat.le_of_ble_eq_true rfl⟩ (fun z45561 F H locs hT hz45561 => ?_)
          obtain ⟨hz45561, yz45561⟩ := hz45561
          have hfr : (∀ b j : Nat, (tag b ≠ 19 ∨ j ≠ 0) → (tag b ≠ 19 ∨ j ≠ 1) → (tag b ≠ 26 ∨ j ≠ 13) → fld F b j = fld Fo b j) ∧ EF tag F Fo := ⟨fun b j n19_0 n19_1 n26_13 => (yz45561.1 b j n26_13).trans (hfr.1 b j n19_0 n19_1 n26_13), fun b j hb => (yz45561.2 b j hb).trans (hfr.2 b j hb)⟩
          exact t_iret hQ X hT (⟨rg_all _, hfr⟩) (Nat.le_of_ble_eq_true rfl) (Nat.le_of_ble_eq_true rfl) dX11_room_81
      refine lv_iload_n hx hb dX11_room_29 rfl (lv_at hl 3 rfl) ?_
      refine lv_bipush (v := 6) hx hb dX11_room_30 (by decide) ?_
      refine lv_icmp_ge (tgt := 118) hx hb dX11_room_32 (by decide) (fun c45562 => ?_) (fun c45562 => ?_)
      · have w45563 := cv_le (by decide : (6 : Int32).toInt = 6) (rfl : z45545.toInt = z45545.toInt) c45562
        refine lv_aload_n hx hb dX11_room_118 rfl (lv_at hl 0 rfl) ?_
        refine lv_iload_n hx hb dX11_room_119 rfl (lv_at hl 2 rfl) ?_
        refine t_cVi (n := 1) (C := RX11) (T := TX11) (N := 16) (As := [.int z45544]) (rest := []) X hT (kt56_X11_answer l G tag L F hT.2.2.2 p0 z45544 m0 g0) m0 g0 rfl rfl qw_463 qw_464 qw_465 qw_2 qw_466 ⟨rfl, by decide +kernel, by decide +kernel, by decide +kernel⟩ ⟨Nat.le_of_ble_eq_true rfl, Nat.le_of_ble_eq_true rfl⟩ hl rfl rfl (Nat.le_of_ble_eq_true rfl) dX11_room_120 ⟨Nat.le_of_ble_eq_true rfl, Nat.le_of_ble_eq_true rfl⟩ (fun z45564 F H locs hT hz45564 => ?_)
        obtain ⟨hz45564, yz45564⟩ := hz45564
        have hfr : (∀ b j : Nat, (tag b ≠ 19 ∨ j ≠ 0) → (tag b ≠ 19 ∨ j ≠ 1) → (tag b ≠ 26 ∨ j ≠ 13) → fld F b j = fld Fo b j) ∧ EF tag F Fo := ⟨fun b j n19_0 n19_1 n26_13 => (yz45564.1 b j n26_13).trans (hfr.1 b j n19_0 n19_1 n26_13), fun b j hb => (yz45564.2 b j hb).trans (hfr.2 b j hb)⟩
        exact t_iret hQ X hT (⟨rg_all _, hfr⟩) (Nat.le_of_ble_eq_true rfl) (Nat.le_of_ble_eq_true rfl) dX11_room_123
      · have w45565 := cv_nle (by decide : (6 : Int32).toInt = 6) (rfl : z45545.toInt = z45545.toInt) c45562
        refine lv_aload_n hx hb dX11_room_35 rfl (lv_at hl 0 rfl) ?_
        refine t_get (C := RX11) (T := TX11) (N := 16) X hT m0 g0 rfl rfl 3 (by decide) qw_18 inlX11 rfl dX11_room_36 (fun v45566 hv45566 ov45566 => ?_)
        obtain ⟨b45567, rfl, mb45567, gb45567⟩ := okV_r ov45566
        have gb45567 : tag b45567 = 18 := tg_of gb45567
        refine lv_aload_n hx hb dX11_room_39 rfl (lv_at hl 0 rfl) ?_
        refine t_get (C := RX11) (T := TX11) (N := 16) X hT m0 g0 rfl rfl 7 (by decide) qw_25 inlX11 rfl dX11_room_40 (fun v45568 hv45568 ov45568 => ?_)
        obtain ⟨b45569, rfl, mb45569, gb45569⟩ := okV_r ov45568
        have gb45569 : tag b45569 = 19 := tg_of gb45569
        refine lv_iload_n hx hb dX11_room_43 rfl (lv_at hl 1 rfl) ?_
        refine t_cSi (n := 3) (As := [.ref b45567, .ref b45569, .int p1]) (rest := []) X hT (kt31_X6_isFit l G tag L F hT.2.2.2 b45567 b45569 p1 mb45567 gb45567 mb45569 gb45569 (by omega)) qw_904 qw_403 qw_380 qw_404 ⟨by decide +kernel, by decide +kernel, by decide +kernel⟩ ⟨Nat.le_of_ble_eq_true rfl, Nat.le_of_ble_eq_true rfl⟩ hl rfl rfl (Nat.le_of_ble_eq_true rfl) dX11_room_44 ⟨Nat.le_of_ble_eq_true rfl, Nat.le_of_ble_eq_true rfl⟩ (fun z45570 F9 H locs hT hz45570 => ?_)
        obtain ⟨fz45570, hz45570⟩ := hz45570
        rw [fz45570] at hT
        refine lv_if_eq (tgt := 65) hx hb dX11_room_47 (by decide) (fun c45571 => ?_) (fun c45571 => ?_)
        · have w45572 := cv_eq (rfl : z45570.toInt = z45570.toInt) (by decide : (0 : Int32).toInt = 0) c45571
          refine lv_bipush (v := (-2)) hx hb dX11_room_65 (by decide) ?_
          exact K67 (-2) _ _ _ _ (by decide) (by omega) hT hfr  (lv_sub hl [0, 1, 2, 3] rfl)
        · have w45573 := cv_ne (rfl : z45570.toInt = z45570.toInt) (by decide : (0 : Int32).toInt = 0) c45571
          refine lv_aload_n hx hb dX11_room_50 rfl (lv_at hl 0 rfl) ?_
          refine t_get (C := RX11) (T := TX11) (N := 16) X hT m0 g0 rfl rfl 3 (by decide) qw_18 inlX11 rfl dX11_room_51 (fun v45574 hv45574 ov45574 => ?_)
          obtain rfl : v45574 = .ref b45567 := hv45574.symm.trans hv45566
          refine lv_aload_n hx hb dX11_room_54 rfl (lv_at hl 0 rfl) ?_
          refine t_get (C := RX11) (T := TX11) (N := 16) X hT m0 g0 rfl rfl 7 (by decide) qw_25 inlX11 rfl dX11_room_55 (fun v45575 hv45575 ov45575 => ?_)
          obtain rfl : v45575 = .ref b45569 := hv45575.symm.trans hv45568
          refine lv_iload_n hx hb dX11_room_58 rfl (lv_at hl 1 rfl) ?_
          refine t_cSi (n := 3) (As := [.ref b45567, .ref b45569, .int p1]) (rest := []) X hT (kt44_X6_lawDoor l G tag L F hT.2.2.2 b45567 b45569 p1 mb45567 gb45567 mb45569 gb45569 (by omega)) qw_913 qw_914 qw_380 qw_915 ⟨by decide +kernel, by decide +kernel, by decide +kernel⟩ ⟨Nat.le_of_ble_eq_true rfl, Nat.le_of_ble_eq_true rfl⟩ hl rfl rfl (Nat.le_of_ble_eq_true rfl) dX11_room_59 ⟨Nat.le_of_ble_eq_true rfl, Nat.le_of_ble_eq_true rfl⟩ (fun z45576 F9 H locs hT hz45576 => ?_)
          obtain ⟨fz45576, hz45576⟩ := hz45576
          rw [fz45576] at hT
          refine lv_goto (tgt := 67) hx hb dX11_room_62 (by decide) ?_
          exact K67 z45576 _ _ _ _ (by omega) (by omega) hT hfr  (lv_sub hl [0, 1, 2, 3] rfl)
  refine lv_aload_n hx hb dX11_room_0 rfl (lv_at hl 0 rfl) ?_
  refine lv_iload_n hx hb dX11_room_1 rfl (lv_at hl 1 rfl) ?_
  refine t_cVi (n := 1) (C := RX11) (T := TX11) (N := 16) (As := [.int p1]) (rest := []) X hT (kt61_X11_isHouse l G tag L F hT.2.2.2 p0 p1 m0 g0) m0 g0 rfl rfl qw_770 qw_771 qw_772 qw_2 qw_773 ⟨rfl, by decide +kernel, by decide +kernel, by decide +kernel⟩ ⟨Nat.le_of_ble_eq_true rfl, Nat.le_of_ble_eq_true rfl⟩ hl rfl rfl (Nat.le_of_ble_eq_true rfl) dX11_room_2 ⟨Nat.le_of_ble_eq_true rfl, Nat.le_of_ble_eq_true rfl⟩ (fun z45577 F9 H locs hT hz45577 => ?_)
  obtain ⟨fz45577, hz45577⟩ := hz45577
  rw [fz45577] at hT
  obtain ⟨hz45577, iz45577⟩ := hz45577
  refine lv_if_ne (tgt := 14) hx hb dX11_room_5 (by decide) (fun c45578 => ?_) (fun c45578 => ?_)
  · have w45579 := cv_ne (rfl : z45577.toInt = z45577.toInt) (by decide : (0 : Int32).toInt = 0) c45578
    have w45580 := (fun h => (iz45577 h)) (by omega)
    refine lv_aload_n hx hb dX11_room_14 rfl (lv_at hl 0 rfl) ?_
    refine t_get (C := RX11) (T := TX11) (N := 16) X hT m0 g0 rfl rfl 7 (by decide) qw_25 inlX11 rfl dX11_room_15 (fun v45581 hv45581 ov45581 => ?_)
    obtain ⟨b45582, rfl, mb45582, gb45582⟩ := okV_r ov45581
    have gb45582 : tag b45582 = 19 := tg_of gb45582
    refine lv_aload_n hx hb dX11_room_18 rfl (lv_at hl 0 rfl) ?_
    refine t_get (C := RX11) (T := TX11) (N := 16) X hT m0 g0 rfl rfl 5 (by decide) qw_23 inlX11 rfl dX11_room_19 (fun v45583 hv45583 ov45583 => ?_)
    obtain ⟨b45584, rfl, mb45584, gb45584⟩ := okV_r ov45583
    have gb45584 : tag b45584 = 19 := tg_of gb45584
    refine t_cVv (n := 1) (C := RX7) (T := TX7) (N := 7) (As := [.ref b45584]) (rest := []) X hT (kt49_X7_copyFrom l G tag L F hT.2.2.2 b45582 b45584 mb45582 gb45582 mb45584 gb45584) mb45582 gb45582 rfl rfl qw_449 qw_450 qw_451 qw_22 qw_452 ⟨rfl, by decide +kernel, by decide +kernel, by decide +kernel⟩ ⟨Nat.le_of_ble_eq_true rfl, Nat.le_of_ble_eq_true rfl⟩ hl rfl rfl (Nat.le_of_ble_eq_true rfl) dX11_room_22 ⟨Nat.le_of_ble_eq_true rfl, Nat.le_of_ble_eq_true rfl⟩ (fun F H locs hT hz45585 => ?_)
    have yz45585 := hz45585
    have hv45581 := (yz45585.1 _ 7 (Or.inr (by decide)) (Or.inr (by decide))).trans hv45581
    have hv45583 := (yz45585.1 _ 5 (Or.inr (by decide)) (Or.inr (by decide))).trans hv45583
    have hfr : (∀ b j : Nat, (tag b ≠ 19 ∨ j ≠ 0) → (tag b ≠ 19 ∨ j ≠ 1) → (tag b ≠ 26 ∨ j ≠ 13) → fld F b j = fld Fo b j) ∧ EF tag F Fo := ⟨fun b j n19_0 n19_1 n26_13 => (yz45585.1 b j n19_0 n19_1).trans (hfr.1 b j n19_0 n19_1 n26_13), fun b j hb => (yz45585.2 b j hb).trans (hfr.2 b j hb)⟩
    refine lv_iconst (v := 0) hx hb dX11_room_25 (by decide) ?_
    refine lv_istore_n (lv' := [(2, .int 0), (0, .ref p0), (1, .int p1)]) hx hb dX11_room_26 rfl hl (by decide) rfl (fun ls hl => ?_)
    refine lv_iconst (v := 0) hx hb dX11_room_27 (by decide) ?_
    refine lv_istore_n (lv' := [(3, .int 0), (2, .int 0), (0, .ref p0), (1, .int p1)]) hx hb dX11_room_28 rfl hl (by decide) rfl (fun ls hl => ?_)
    have kk45586 : (0 : Int32).toInt = 0 := by decide
    have kk45587 : (0 : Int32).toInt = 0 := by decide
    exact K29 7 0 0 _ _ _ _ (by omega) (by decide) (by omega) hT hfr  (lv_sub hl [2, 3, 1, 0] rfl)
  · have w45588 := cv_eq (rfl : z45577.toInt = z45577.toInt) (by decide : (0 : Int32).toInt = 0) c45578
    refine lv_aload_n hx hb dX11_room_8 rfl (lv_at hl 0 rfl) ?_
    refine lv_iconst (v := 1) hx hb dX11_room_9 (by decide) ?_
    refine t_cVi (n := 1) (C := RX11) (T := TX11) (N := 16) (As := [.int 1]) (rest := []) X hT (kt63_X11_refuse l G tag L F hT.2.2.2 p0 1 m0 g0) m0 g0 rfl rfl qw_152 qw_153 qw_154 qw_2 qw_155 ⟨rfl, by decide +kernel, by decide +kernel, by decide +kernel⟩ ⟨Nat.le_of_ble_eq_true rfl, Nat.le_of_ble_eq_true rfl⟩ hl rfl rfl (Nat.le_of_ble_eq_true rfl) dX11_room_10 ⟨Nat.le_of_ble_eq_true rfl, Nat.le_of_ble_eq_true rfl⟩ (fun z45589 F H locs hT hz45589 => ?_)
    obtain ⟨hz45589, yz45589⟩ := hz45589
    have hfr : (∀ b j : Nat, (tag b ≠ 19 ∨ j ≠ 0) → (tag b ≠ 19 ∨ j ≠ 1) → (tag b ≠ 26 ∨ j ≠ 13) → fld F b j = fld Fo b j) ∧ EF tag F Fo := ⟨fun b j n19_0 n19_1 n26_13 => (yz45589.1 b j n26_13).trans (hfr.1 b j n19_0 n19_1 n26_13), fun b j hb => (yz45589.2 b j hb).trans (hfr.2 b j hb)⟩
    exact t_iret hQ X hT (⟨rg_all _, hfr⟩) (Nat.le_of_ble_eq_true rfl) (Nat.le_of_ble_eq_true rfl) dX11_room_13
