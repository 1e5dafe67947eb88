set_option maxHeartbeats 4000000 in
set_option maxRecDepth 100000 in
theorem kt409_X11_sizeNow (l : Launch) (G : KG) (tag : Nat → Nat) (L : List Nat) (F : Nat → va_E) (ho : okT G ttC tag L F) (p0 : Nat) (p1 : Int32) (m0 : p0 ∈ L) (g0 : tag p0 = 26) : TMi l yX11_sizeNow cX11_sizeNow 2 (some .int) { frames := 0, cells := 0, slots := 0, locals := 0 } G ttC tag L F [.ref p0, .int p1] (fun r F1 => F1 = F ∧ ((-2147483648) ≤ r.toInt ∧ r.toInt ≤ 2147483647)) := by
  refine t_bodyi (y := yX11_sizeNow) (cd := cX11_sizeNow) (mL := 2) (rt := (some .int)) (rm := { frames := 0, cells := 0, slots := 0, locals := 0 }) (av := [.ref p0, .int p1]) (by decide) (Nat.le_of_ble_eq_true rfl) ho ?_
  intro p e s m args below meth c ls A Q hQ X hT hl
  have hx := X.1.1
  have hb := X.1.2.1
  have hl : lv_has ls 2 [(0, .ref p0), (1, .int p1)] := hl
  have rp1 := rg_all p1
  refine lv_iload_n hx hb dX11_sizeNow_0 rfl (lv_at hl 1 rfl) ?_
  by_cases c130700 : p1 = 8
  · have w130701 := cv_eq (rfl : p1.toInt = p1.toInt) (by decide : (8 : Int32).toInt = 8) c130700
    refine lv_tableIn (off := 27) (tgt := 28) hx hb dX11_sizeNow_1 (by rw [c130700]; decide) (by rw [c130700]; decide) (by rw [c130700]; decide) (by decide) ?_
    refine lv_aload_n hx hb dX11_sizeNow_28 rfl (lv_at hl 0 rfl) ?_
    refine t_get (C := RX11) (T := TX11) (N := 16) X hT m0 g0 rfl rfl 5 (by decide) qw_23 inlX11 rfl dX11_sizeNow_29 (fun v130702 hv130702 ov130702 => ?_)
    obtain ⟨b130703, rfl, mb130703, gb130703⟩ := okV_r ov130702
    have gb130703 : tag b130703 = 19 := tg_of gb130703
    refine t_get (C := RX7) (T := TX7) (N := 7) X hT mb130703 gb130703 rfl rfl 0 (by decide) qw_1225 inlX7 rfl dX11_sizeNow_32 (fun v130704 hv130704 ov130704 => ?_)
    obtain ⟨z130705, rfl, rz130705⟩ := okV_i ov130704
    exact t_iret hQ X hT (⟨rfl, rg_all _⟩) (Nat.le_of_ble_eq_true rfl) (Nat.le_of_ble_eq_true rfl) dX11_sizeNow_35
  have w130706 := cv_ne (rfl : p1.toInt = p1.toInt) (by decide : (8 : Int32).toInt = 8) c130700
  by_cases c130707 : p1 = 9
  · have w130708 := cv_eq (rfl : p1.toInt = p1.toInt) (by decide : (9 : Int32).toInt = 9) c130707
    refine lv_tableIn (off := 35) (tgt := 36) hx hb dX11_sizeNow_1 (by rw [c130707]; decide) (by rw [c130707]; decide) (by rw [c130707]; decide) (by decide) ?_
    refine lv_aload_n hx hb dX11_sizeNow_36 rfl (lv_at hl 0 rfl) ?_
    refine t_get (C := RX11) (T := TX11) (N := 16) X hT m0 g0 rfl rfl 5 (by decide) qw_23 inlX11 rfl dX11_sizeNow_37 (fun v130709 hv130709 ov130709 => ?_)
    obtain ⟨b130710, rfl, mb130710, gb130710⟩ := okV_r ov130709
    have gb130710 : tag b130710 = 19 := tg_of gb130710
    refine t_get (C := RX7) (T := TX7) (N := 7) X hT mb130710 gb130710 rfl rfl 1 (by decide) qw_1282 inlX7 rfl dX11_sizeNow_40 (fun v130711 hv130711 ov130711 => ?_)
    obtain ⟨z130712, rfl, rz130712⟩ := okV_i ov130711
    exact t_iret hQ X hT (⟨rfl, rg_all _⟩) (Nat.le_of_ble_eq_true rfl) (Nat.le_of_ble_eq_true rfl) dX11_sizeNow_43
  have w130713 := cv_ne (rfl : p1.toInt = p1.toInt) (by decide : (9 : Int32).toInt = 9) c130707
  by_cases c130714 : p1 = 10
  · have w130715 := cv_eq (rfl : p1.toInt = p1.toInt) (by decide : (10 : Int32).toInt = 10) c130714
    refine lv_tableIn (off := 43) (tgt := 44) hx hb dX11_sizeNow_1 (by rw [c130714]; decide) (by rw [c130714]; decide) (by rw [c130714]; decide) (by decide) ?_
    refine lv_aload_n hx hb dX11_sizeNow_44 rfl (lv_at hl 0 rfl) ?_
    refine t_get (C := RX11) (T := TX11) (N := 16) X hT m0 g0 rfl rfl 12 (by decide) qw_45 inlX11 rfl dX11_sizeNow_45 (fun v130716 hv130716 ov130716 => ?_)
    obtain ⟨b130717, rfl, mb130717, gb130717⟩ := okV_r ov130716
    have gb130717 : tag b130717 = 23 := tg_of gb130717
    refine t_get (C := RX2) (T := TX2) (N := 5) X hT mb130717 gb130717 rfl rfl 3 (by decide) qw_1590 inlX2 rfl dX11_sizeNow_48 (fun v130718 hv130718 ov130718 => ?_)
    obtain ⟨z130719, rfl, rz130719⟩ := okV_i ov130718
    exact t_iret hQ X hT (⟨rfl, rg_all _⟩) (Nat.le_of_ble_eq_true rfl) (Nat.le_of_ble_eq_true rfl) dX11_sizeNow_51
  have w130720 := cv_ne (rfl : p1.toInt = p1.toInt) (by decide : (10 : Int32).toInt = 10) c130714
  refine lv_tableOut (tgt := 52) hx hb dX11_sizeNow_1 (by omega) (by decide) ?_
  refine lv_aload_n hx hb dX11_sizeNow_52 rfl (lv_at hl 0 rfl) ?_
  refine t_get (C := RX11) (T := TX11) (N := 16) X hT m0 g0 rfl rfl 12 (by decide) qw_45 inlX11 rfl dX11_sizeNow_53 (fun v130721 hv130721 ov130721 => ?_)
  obtain ⟨b130722, rfl, mb130722, gb130722⟩ := okV_r ov130721
  have gb130722 : tag b130722 = 23 := tg_of gb130722
  refine t_get (C := RX2) (T := TX2) (N := 5) X hT mb130722 gb130722 rfl rfl 4 (by decide) qw_1591 inlX2 rfl dX11_sizeNow_56 (fun v130723 hv130723 ov130723 => ?_)
  obtain ⟨z130724, rfl, rz130724⟩ := okV_i ov130723
  exact t_iret hQ X hT (⟨rfl, rg_all _⟩) (Nat.le_of_ble_eq_true rfl) (Nat.le_of_ble_eq_true rfl) dX11_sizeNow_59
set_option maxHeartbeats 4000000 in
set_option maxRecDepth 100000 in
theorem kt410_X11_sizeTold (l : Launch) (G : KG) (tag : Nat → Nat) (L : List Nat) (F : Nat → va_E) (ho : okT G ttC tag L F) (p0 : Nat) (p1 : Int32) (m0 : p0 ∈ L) (g0 : tag p0 = 26) : TMi l yX11_sizeTold cX11_sizeTold 2 (some .int) { frames := 0, cells := 0, slots := 0, locals := 0 } G ttC tag L F [.ref p0, .int p1] (fun r F1 => F1 = F ∧ ((-2147483648) ≤ r.toInt ∧ r.toInt ≤ 2147483647)) := by
  refine t_bodyi (y := yX11_sizeTold) (cd := cX11_sizeTold) (mL := 2) (rt := (some .int)) (rm := { frames := 0, cells := 0, slots := 0, locals := 0 }) (av := [.ref p0, .int p1]) (by decide) (Nat.le_of_ble_eq_true rfl) ho ?_
  intro p e s m args below meth c ls A Q hQ X hT hl
  have hx := X.1.1
  have hb := X.1.2.1
  have hl : lv_has ls 2 [(0, .ref p0), (1, .int p1)] := hl
  have rp1 := rg_all p1
  refine lv_iload_n hx hb dX11_sizeTold_0 rfl (lv_at hl 1 rfl) ?_
  by_cases c131376 : p1 = 0
  · have w131377 := cv_eq (rfl : p1.toInt = p1.toInt) (by decide : (0 : Int32).toInt = 0) c131376
    refine lv_tableIn (off := 43) (tgt := 44) hx hb dX11_sizeTold_1 (by rw [c131376]; decide) (by rw [c131376]; decide) (by rw [c131376]; decide) (by decide) ?_
    refine lv_aload_n hx hb dX11_sizeTold_44 rfl (lv_at hl 0 rfl) ?_
    refine t_get (C := RX11) (T := TX11) (N := 16) X hT m0 g0 rfl rfl 3 (by decide) qw_18 inlX11 rfl dX11_sizeTold_45 (fun v131378 hv131378 ov131378 => ?_)
    obtain ⟨b131379, rfl, mb131379, gb131379⟩ := okV_r ov131378
    have gb131379 : tag b131379 = 18 := tg_of gb131379
    refine t_get (C := RX1) (T := TX1) (N := 20) X hT mb131379 gb131379 rfl rfl 0 (by decide) qw_728 inlX1 rfl dX11_sizeTold_48 (fun v131380 hv131380 ov131380 => ?_)
    obtain ⟨z131381, rfl, rz131381⟩ := okV_i ov131380
    exact t_iret hQ X hT (⟨rfl, rg_all _⟩) (Nat.le_of_ble_eq_true rfl) (Nat.le_of_ble_eq_true rfl) dX11_sizeTold_51
  have w131382 := cv_ne (rfl : p1.toInt = p1.toInt) (by decide : (0 : Int32).toInt = 0) c131376
  by_cases c131383 : p1 = 1
  · have w131384 := cv_eq (rfl : p1.toInt = p1.toInt) (by decide : (1 : Int32).toInt = 1) c131383
    refine lv_tableIn (off := 51) (tgt := 52) hx hb dX11_sizeTold_1 (by rw [c131383]; decide) (by rw [c131383]; decide) (by rw [c131383]; decide) (by decide) ?_
    refine lv_aload_n hx hb dX11_sizeTold_52 rfl (lv_at hl 0 rfl) ?_
    refine t_get (C := RX11) (T := TX11) (N := 16) X hT m0 g0 rfl rfl 3 (by decide) qw_18 inlX11 rfl dX11_sizeTold_53 (fun v131385 hv131385 ov131385 => ?_)
    obtain ⟨b131386, rfl, mb131386, gb131386⟩ := okV_r ov131385
    have gb131386 : tag b131386 = 18 := tg_of gb131386
    refine t_get (C := RX1) (T := TX1) (N := 20) X hT mb131386 gb131386 rfl rfl 1 (by decide) qw_727 inlX1 rfl dX11_sizeTold_56 (fun v131387 hv131387 ov131387 => ?_)
    obtain ⟨z131388, rfl, rz131388⟩ := okV_i ov131387
    exact t_iret hQ X hT (⟨rfl, rg_all _⟩) (Nat.le_of_ble_eq_true rfl) (Nat.le_of_ble_eq_true rfl) dX11_sizeTold_59
  have w131389 := cv_ne (rfl : p1.toInt = p1.toInt) (by decide : (1 : Int32).toInt = 1) c131383
  by_cases c131390 : p1 = 2
  · have w131391 := cv_eq (rfl : p1.toInt = p1.toInt) (by decide : (2 : Int32).toInt = 2) c131390
    refine lv_tableIn (off := 59) (tgt := 60) hx hb dX11_sizeTold_1 (by rw [c131390]; decide) (by rw [c131390]; decide) (by rw [c131390]; decide) (by decide) ?_
    refine lv_aload_n hx hb dX11_sizeTold_60 rfl (lv_at hl 0 rfl) ?_
    refine t_get (C := RX11) (T := TX11) (N := 16) X hT m0 g0 rfl rfl 3 (by decide) qw_18 inlX11 rfl dX11_sizeTold_61 (fun v131392 hv131392 ov131392 => ?_)
    obtain ⟨b131393, rfl, mb131393, gb131393⟩ := okV_r ov131392
    have gb131393 : tag b131393 = 18 := tg_of gb131393
    refine t_get (C := RX1) (T := TX1) (N := 20) X hT mb131393 gb131393 rfl rfl 2 (by decide) qw_1584 inlX1 rfl dX11_sizeTold_64 (fun v131394 hv131394 ov131394 => ?_)
    obtain ⟨z131395, rfl, rz131395⟩ := okV_i ov131394
    refine lv_if_eq (tgt := 74) hx hb dX11_sizeTold_67 (by decide) (fun c131396 => ?_) (fun c131396 => ?_)
    · have w131397 := cv_eq (rfl : z131395.toInt = z131395.toInt) (by decide : (0 : Int32).toInt = 0) c131396
      refine lv_iconst (v := 0) hx hb dX11_sizeTold_74 (by decide) ?_
      exact t_iret hQ X hT (⟨rfl, rg_all _⟩) (Nat.le_of_ble_eq_true rfl) (Nat.le_of_ble_eq_true rfl) dX11_sizeTold_75
    · have w131398 := cv_ne (rfl : z131395.toInt = z131395.toInt) (by decide : (0 : Int32).toInt = 0) c131396
      refine lv_iconst (v := 1) hx hb dX11_sizeTold_70 (by decide) ?_
      refine lv_goto (tgt := 75) hx hb dX11_sizeTold_71 (by decide) ?_
      exact t_iret hQ X hT (⟨rfl, rg_all _⟩) (Nat.le_of_ble_eq_true rfl) (Nat.le_of_ble_eq_true rfl) dX11_sizeTold_75
  have w131399 := cv_ne (rfl : p1.toInt = p1.toInt) (by decide : (2 : Int32).toInt = 2) c131390
  by_cases c131400 : p1 = 3
  · have w131401 := cv_eq (rfl : p1.toInt = p1.toInt) (by decide : (3 : Int32).toInt = 3) c131400
    refine lv_tableIn (off := 75) (tgt := 76) hx hb dX11_sizeTold_1 (by rw [c131400]; decide) (by rw [c131400]; decide) (by rw [c131400]; decide) (by decide) ?_
    refine lv_aload_n hx hb dX11_sizeTold_76 rfl (lv_at hl 0 rfl) ?_
    refine t_get (C := RX11) (T := TX11) (N := 16) X hT m0 g0 rfl rfl 3 (by decide) qw_18 inlX11 rfl dX11_sizeTold_77 (fun v131402 hv131402 ov131402 => ?_)
    obtain ⟨b131403, rfl, mb131403, gb131403⟩ := okV_r ov131402
    have gb131403 : tag b131403 = 18 := tg_of gb131403
    refine t_get (C := RX1) (T := TX1) (N := 20) X hT mb131403 gb131403 rfl rfl 3 (by decide) qw_1585 inlX1 rfl dX11_sizeTold_80 (fun v131404 hv131404 ov131404 => ?_)
    obtain ⟨z131405, rfl, rz131405⟩ := okV_i ov131404
    refine lv_if_eq (tgt := 90) hx hb dX11_sizeTold_83 (by decide) (fun c131406 => ?_) (fun c131406 => ?_)
    · have w131407 := cv_eq (rfl : z131405.toInt = z131405.toInt) (by decide : (0 : Int32).toInt = 0) c131406
      refine lv_iconst (v := 0) hx hb dX11_sizeTold_90 (by decide) ?_
      exact t_iret hQ X hT (⟨rfl, rg_all _⟩) (Nat.le_of_ble_eq_true rfl) (Nat.le_of_ble_eq_true rfl) dX11_sizeTold_91
    · have w131408 := cv_ne (rfl : z131405.toInt = z131405.toInt) (by decide : (0 : Int32).toInt = 0) c131406
      refine lv_iconst (v := 1) hx hb dX11_sizeTold_86 (by decide) ?_
      refine lv_goto (tgt := 91) hx hb dX11_sizeTold_87 (by decide) ?_
      exact t_iret hQ X hT (⟨rfl, rg_all _⟩) (Nat.le_of_ble_eq_true rfl) (Nat.le_of_ble_eq_true rfl) dX11_sizeTold_91
  have w131409 := cv_ne (rfl : p1.toInt = p1.toInt) (by decide : (3 : Int32).toInt = 3) c131400
  by_cases c131410 : p1 = 4
  · have w131411 := cv_eq (rfl : p1.toInt = p1.toInt) (by decide : (4 : Int32).toInt = 4) c131410
    refine lv_tableIn (off := 91) (tgt := 92) hx hb dX11_sizeTold_1 (by rw [c131410]; decide) (by rw [c131410]; decide) (by rw [c131410]; decide) (by decide) ?_
    refine lv_aload_n hx hb dX11_sizeTold_92 rfl (lv_at hl 0 rfl) ?_
    refine t_get (C := RX11) (T := TX11) (N := 16) X hT m0 g0 rfl rfl 3 (by decide) qw_18 inlX11 rfl dX11_sizeTold_93 (fun v131412 hv131412 ov131412 => ?_)
    obtain ⟨b131413, rfl, mb131413, gb131413⟩ := okV_r ov131412
    have gb131413 : tag b131413 = 18 := tg_of gb131413
    refine t_get (C := RX1) (T := TX1) (N := 20) X hT mb131413 gb131413 rfl rfl 8 (by decide) qw_958 inlX1 rfl dX11_sizeTold_96 (fun v131414 hv131414 ov131414 => ?_)
    obtain ⟨z131415, rfl, rz131415⟩ := okV_i ov131414
    exact t_iret hQ X hT (⟨rfl, rg_all _⟩) (Nat.le_of_ble_eq_true rfl) (Nat.le_of_ble_eq_true rfl) dX11_sizeTold_99
  have w131416 := cv_ne (rfl : p1.toInt = p1.toInt) (by decide : (4 : Int32).toInt = 4) c131410
  by_cases c131417 : p1 = 5
  · have w131418 := cv_eq (rfl : p1.toInt = p1.toInt) (by decide : (5 : Int32).toInt = 5) c131417
    refine lv_tableIn (off := 99) (tgt := 100) hx hb dX11_sizeTold_1 (by rw [c131417]; decide) (by rw [c131417]; decide) (by rw [c131417]; decide) (by decide) ?_
    refine lv_aload_n hx hb dX11_sizeTold_100 rfl (lv_at hl 0 rfl) ?_
    refine t_get (C := RX11) (T := TX11) (N := 16) X hT m0 g0 rfl rfl 3 (by decide) qw_18 inlX11 rfl dX11_sizeTold_101 (fun v131419 hv131419 ov131419 => ?_)
    obtain ⟨b131420, rfl, mb131420, gb131420⟩ := okV_r ov131419
    have gb131420 : tag b131420 = 18 := tg_of gb131420
    refine t_get (C := RX1) (T := TX1) (N := 20) X hT mb131420 gb131420 rfl rfl 10 (by decide) qw_151 inlX1 rfl dX11_sizeTold_104 (fun v131421 hv131421 ov131421 => ?_)
    obtain ⟨z131422, rfl, rz131422⟩ := okV_i ov131421
    exact t_iret hQ X hT (⟨rfl, rg_all _⟩) (Nat.le_of_ble_eq_true rfl) (Nat.le_of_ble_eq_true rfl) dX11_sizeTold_107
  have w131423 := cv_ne (rfl : p1.toInt = p1.toInt) (by decide : (5 : Int32).toInt = 5) c131417
  by_cases c131424 : p1 = 6
  · have w131425 := cv_eq (rfl : p1.toInt = p1.toInt) (by decide : (6 : Int32).toInt = 6) c131424
    refine lv_tableIn (off := 107) (tgt := 108) hx hb dX11_sizeTold_1 (by rw [c131424]; decide) (by rw [c131424]; decide) (by rw [c131424]; decide) (by decide) ?_
    refine lv_aload_n hx hb dX11_sizeTold_108 rfl (lv_at hl 0 rfl) ?_
    refine t_get (C := RX11) (T := TX11) (N := 16) X hT m0 g0 rfl rfl 3 (by decide) qw_18 inlX11 rfl dX11_sizeTold_109 (fun v131426 hv131426 ov131426 => ?_)
    obtain ⟨b131427, rfl, mb131427, gb131427⟩ := okV_r ov131426
    have gb131427 : tag b131427 = 18 := tg_of gb131427
    refine t_get (C := RX1) (T := TX1) (N := 20) X hT mb131427 gb131427 rfl rfl 14 (by decide) qw_891 inlX1 rfl dX11_sizeTold_112 (fun v131428 hv131428 ov131428 => ?_)
    obtain ⟨z131429, rfl, rz131429⟩ := okV_i ov131428
    exact t_iret hQ X hT (⟨rfl, rg_all _⟩) (Nat.le_of_ble_eq_true rfl) (Nat.le_of_ble_eq_true rfl) dX11_sizeTold_115
  have w131430 := cv_ne (rfl : p1.toInt = p1.toInt) (by decide : (6 : Int32).toInt = 6) c131424
  refine lv_tableOut (tgt := 116) hx hb dX11_sizeTold_1 (by omega) (by decide) ?_
  refine lv_aload_n hx hb dX11_sizeTold_116 rfl (lv_at hl 0 rfl) ?_
  refine t_get (C := RX11) (T := TX11) (N := 16) X hT m0 g0 rfl rfl 3 (by decide) qw_18 inlX11 rfl dX11_sizeTold_117 (fun v131431 hv131431 ov131431 => ?_)
  obtain ⟨b131432, rfl, mb131432, gb131432⟩ := okV_r ov131431
  have gb131432 : tag b131432 = 18 := tg_of gb131432
  refine t_get (C := RX1) (T := TX1) (N := 20) X hT mb131432 gb131432 rfl rfl 16 (by decide) qw_1383 inlX1 rfl dX11_sizeTold_120 (fun v131433 hv131433 ov131433 => ?_)
  obtain ⟨z131434, rfl, rz131434⟩ := okV_i ov131433
  exact t_iret hQ X hT (⟨rfl, rg_all _⟩) (Nat.le_of_ble_eq_true rfl) (Nat.le_of_ble_eq_true rfl) dX11_sizeTold_123
set_option maxHeartbeats 4000000 in
set_option maxRecDepth 100000 in
theorem kt411_X11_size (l : Launch) (G : KG) (tag : Nat → Nat) (L : List Nat) (F : Nat → va_E) (ho : okT G ttC tag L F) (p0 : Nat) (p1 : Int32) (m0 : p0 ∈ L) (g0 : tag p0 = 26) : TMi l yX11_size cX11_size 2 (some .int) { frames := 1, cells := 0, slots := 0, locals := 21 } G ttC tag L F [.ref p0, .int p1] (fun r F1 => F1 = F ∧ ((-2147483648) ≤ r.toInt ∧ r.toInt ≤ 2147483647)) := by
  refine t_bodyi (y := yX11_size) (cd := cX11_size) (mL := 2) (rt := (some .int)) (rm := { frames := 1, cells := 0, slots := 0, locals := 21 }) (av := [.ref p0, .int p1]) (by decide) (Nat.le_of_ble_eq_true rfl) ho ?_
  intro p e s m args below meth c ls A Q hQ X hT hl
  have hx := X.1.1
  have hb := X.1.2.1
  have hl : lv_has ls 2 [(0, .ref p0), (1, .int p1)] := hl
  have rp1 := rg_all p1
  refine lv_iload_n hx hb dX11_size_0 rfl (lv_at hl 1 rfl) ?_
  refine lv_bipush (v := 12) hx hb dX11_size_1 (by decide) ?_
  refine lv_icmp_ne (tgt := 11) hx hb dX11_size_3 (by decide) (fun c131651 => ?_) (fun c131651 => ?_)
  · have w131652 := cv_ne (rfl : p1.toInt = p1.toInt) (by decide : (12 : Int32).toInt = 12) c131651
    refine lv_iload_n hx hb dX11_size_11 rfl (lv_at hl 1 rfl) ?_
    refine lv_if_lt (tgt := 21) hx hb dX11_size_12 (by decide) (fun c131653 => ?_) (fun c131653 => ?_)
    · have w131654 := cv_lt (rfl : p1.toInt = p1.toInt) (by decide : (0 : Int32).toInt = 0) c131653
      refine lv_iconst (v := (-1)) hx hb dX11_size_21 (by decide) ?_
      exact t_iret hQ X hT (⟨rfl, rg_all _⟩) (Nat.le_of_ble_eq_true rfl) (Nat.le_of_ble_eq_true rfl) dX11_size_22
    · have w131655 := cv_nlt (rfl : p1.toInt = p1.toInt) (by decide : (0 : Int32).toInt = 0) c131653
      refine lv_iload_n hx hb dX11_size_15 rfl (lv_at hl 1 rfl) ?_
      refine lv_bipush (v := 12) hx hb dX11_size_16 (by decide) ?_
      refine lv_icmp_le (tgt := 23) hx hb dX11_size_18 (by decide) (fun c131656 => ?_) (fun c131656 => ?_)
      · have w131657 := cv_le (rfl : p1.toInt = p1.toInt) (by decide : (12 : Int32).toInt = 12) c131656
        refine lv_aload_n hx hb dX11_size_23 rfl (lv_at hl 0 rfl) ?_
        refine t_get (C := RX11) (T := TX11) (N := 16) X hT m0 g0 rfl rfl 2 (by decide) qw_150 inlX11 rfl dX11_size_24 (fun v131658 hv131658 ov131658 => ?_)
        obtain ⟨z131659, rfl, rz131659⟩ := okV_i ov131658
        refine lv_if_ne (tgt := 32) hx hb dX11_size_27 (by decide) (fun c131660 => ?_) (fun c131660 => ?_)
        · have w131661 := cv_ne (rfl : z131659.toInt = z131659.toInt) (by decide : (0 : Int32).toInt = 0) c131660
          refine lv_iload_n hx hb dX11_size_32 rfl (lv_at hl 1 rfl) ?_
          refine lv_bipush (v := 8) hx hb dX11_size_33 (by decide) ?_
          refine lv_icmp_ge (tgt := 46) hx hb dX11_size_35 (by decide) (fun c131662 => ?_) (fun c131662 => ?_)
          · have w131663 := cv_le (by decide : (8 : Int32).toInt = 8) (rfl : p1.toInt = p1.toInt) c131662
            refine lv_aload_n hx hb dX11_size_46 rfl (lv_at hl 0 rfl) ?_
            refine lv_iload_n hx hb dX11_size_47 rfl (lv_at hl 1 rfl) ?_
            refine t_cVi (n := 1) (C := RX11) (T := TX11) (N := 16) (As := [.int p1]) (rest := []) X hT (kt409_X11_sizeNow l G tag L F hT.2.2.2 p0 p1 m0 g0) m0 g0 rfl rfl qw_1586 qw_1587 qw_1588 qw_2 qw_1589 ⟨rfl, by decide +kernel, by decide +kernel, by decide +kernel⟩ ⟨Nat.le_of_ble_eq_true rfl, Nat.le_of_ble_eq_true rfl⟩ hl rfl rfl (Nat.le_of_ble_eq_true rfl) dX11_size_48 ⟨Nat.le_of_ble_eq_true rfl, Nat.le_of_ble_eq_true rfl⟩ (fun z131664 F9 H locs hT hz131664 => ?_)
            obtain ⟨fz131664, hz131664⟩ := hz131664
            rw [fz131664] at hT
            exact t_iret hQ X hT (⟨rfl, rg_all _⟩) (Nat.le_of_ble_eq_true rfl) (Nat.le_of_ble_eq_true rfl) dX11_size_51
          · have w131665 := cv_nle (by decide : (8 : Int32).toInt = 8) (rfl : p1.toInt = p1.toInt) c131662
            refine lv_aload_n hx hb dX11_size_38 rfl (lv_at hl 0 rfl) ?_
            refine lv_iload_n hx hb dX11_size_39 rfl (lv_at hl 1 rfl) ?_
            refine t_cVi (n := 1) (C := RX11) (T := TX11) (N := 16) (As := [.int p1]) (rest := []) X hT (kt410_X11_sizeTold l G tag L F hT.2.2.2 p0 p1 m0 g0) m0 g0 rfl rfl qw_1580 qw_1581 qw_1582 qw_2 qw_1583 ⟨rfl, by decide +kernel, by decide +kernel, by decide +kernel⟩ ⟨Nat.le_of_ble_eq_true rfl, Nat.le_of_ble_eq_true rfl⟩ hl rfl rfl (Nat.le_of_ble_eq_true rfl) dX11_size_40 ⟨Nat.le_of_ble_eq_true rfl, Nat.le_of_ble_eq_true rfl⟩ (fun z131666 F9 H locs hT hz131666 => ?_)
            obtain ⟨fz131666, hz131666⟩ := hz131666
            rw [fz131666] at hT
            refine lv_goto (tgt := 51) hx hb dX11_size_43 (by decide) ?_
            exact t_iret hQ X hT (⟨rfl, rg_all _⟩) (Nat.le_of_ble_eq_true rfl) (Nat.le_of_ble_eq_true rfl) dX11_size_51
        · have w131667 := cv_eq (rfl : z131659.toInt = z131659.toInt) (by decide : (0 : Int32).toInt = 0) c131660
          refine lv_iconst (v := 0) hx hb dX11_size_30 (by decide) ?_
          exact t_iret hQ X hT (⟨rfl, rg_all _⟩) (Nat.le_of_ble_eq_true rfl) (Nat.le_of_ble_eq_true rfl) dX11_size_31
      · have w131668 := cv_nle (rfl : p1.toInt = p1.toInt) (by decide : (12 : Int32).toInt = 12) c131656
        refine lv_iconst (v := (-1)) hx hb dX11_size_21 (by decide) ?_
        exact t_iret hQ X hT (⟨rfl, rg_all _⟩) (Nat.le_of_ble_eq_true rfl) (Nat.le_of_ble_eq_true rfl) dX11_size_22
  · have w131669 := cv_eq (rfl : p1.toInt = p1.toInt) (by decide : (12 : Int32).toInt = 12) c131651
    refine lv_aload_n hx hb dX11_size_6 rfl (lv_at hl 0 rfl) ?_
    refine t_get (C := RX11) (T := TX11) (N := 16) X hT m0 g0 rfl rfl 1 (by decide) qw_131 inlX11 rfl dX11_size_7 (fun v131670 hv131670 ov131670 => ?_)
    obtain ⟨z131671, rfl, rz131671⟩ := okV_i ov131670
    exact t_iret hQ X hT (⟨rfl, rg_all _⟩) (Nat.le_of_ble_eq_true rfl) (Nat.le_of_ble_eq_true rfl) dX11_size_10
set_option maxHeartbeats 4000000 in
set_option maxRecDepth 100000 in
theorem kt412_X11_skin (l : Launch) (G : KG) (tag : Nat → Nat) (L : List Nat) (Fo : Nat → va_E) (ho : okT G ttC tag L Fo) (p0 : Nat) (p1 : Int32) (p2 : Int32) (p3 : Int32) (m0 : p0 ∈ L) (g0 : tag p0 = 26) : TMi l yX11_skin cX11_skin 4 (some .int) { frames := 3, cells := 0, slots := 0, locals := 65 } G ttC tag L Fo [.ref p0, .int p1, .int p2, .int p3] (fun r F1 => ((-2147483648) ≤ r.toInt ∧ r.toInt ≤ 2147483647) ∧ ((∀ b j : Nat, (tag b ≠ 26 ∨ j ≠ 13) → fld F1 b j = fld Fo b j) ∧ EF tag F1 Fo)) := by
  refine t_bodyi (y := yX11_skin) (cd := cX11_skin) (mL := 4) (rt := (some .int)) (rm := { frames := 3, cells := 0, slots := 0, locals := 65 }) (av := [.ref p0, .int p1, .int p2, .int p3]) (by decide) (Nat.le_of_ble_eq_true rfl) ho ?_
  intro p e s m args below meth c ls A Q hQ X hT hl
  have hx := X.1.1
  have hb := X.1.2.1
  have hl : lv_has ls 4 [(0, .ref p0), (1, .int p1), (2, .int p2), (3, .int p3)] := hl
  have rp1 := rg_all p1
  have rp2 := rg_all p2
  have rp3 := rg_all p3
  obtain ⟨F, hFo⟩ : ∃ F : Nat → va_E, F = Fo := ⟨_, rfl⟩
  rw [← hFo] at hT
  have hfr : (∀ b j : Nat, (tag b ≠ 26 ∨ j ≠ 13) → fld F b j = fld Fo b j) ∧ EF tag F Fo := by
    rw [hFo]
    exact ⟨by intros; rfl, fun _ _ _ => rfl⟩
  have K19 : ∀  (F : Nat → va_E) (H : Heap) (locs : List Loc) (ls : Array Slot), TH G ttC A s tag L F H locs → ((∀ b j : Nat, (tag b ≠ 26 ∨ j ≠ 13) → fld F b j = fld Fo b j) ∧ EF tag F Fo) → lv_has ls 4 [(0, .ref p0), (1, .int p1), (2, .int p2), (3, .int p3)] → W p l e { frames := 3, cells := 0, slots := 0, locals := 65 } s m args below meth c H locs 0 0 Q (F0 m 19 ls []) := by
    intro F H locs ls hT hfr hl
    refine lv_aload_n hx hb dX11_skin_19 rfl (lv_at hl 0 rfl) ?_
    refine lv_iconst (v := 1) hx hb dX11_skin_20 (by decide) ?_
    refine t_cVi (n := 1) (C := RX11) (T := TX11) (N := 16) (As := [.int 1]) (rest := []) X hT (kt357_X11_refuse l G tag L F hT.2.2.2 p0 1 m0 g0) m0 g0 rfl rfl qw_152 qw_153 qw_154 qw_2 qw_155 ⟨rfl, by decide +kernel, by decide +kernel, by decide +kernel⟩ ⟨Nat.le_of_ble_eq_true rfl, Nat.le_of_ble_eq_true rfl⟩ hl rfl rfl (Nat.le_of_ble_eq_true rfl) dX11_skin_21 ⟨Nat.le_of_ble_eq_true rfl, Nat.le_of_ble_eq_true rfl⟩ (fun z131870 F H locs hT hz131870 => ?_)
    obtain ⟨hz131870, yz131870⟩ := hz131870
    have hfr : (∀ b j : Nat, (tag b ≠ 26 ∨ j ≠ 13) → fld F b j = fld Fo b j) ∧ EF tag F Fo := ⟨fun b j n26_13 => (yz131870.1 b j n26_13).trans (hfr.1 b j n26_13), fun b j hb => (yz131870.2 b j hb).trans (hfr.2 b j hb)⟩
    exact t_iret hQ X hT (⟨rg_all _, hfr⟩) (Nat.le_of_ble_eq_true rfl) (Nat.le_of_ble_eq_true rfl) dX11_skin_24
  refine lv_aload_n hx hb dX11_skin_0 rfl (lv_at hl 0 rfl) ?_
  refine lv_iload_n hx hb dX11_skin_1 rfl (lv_at hl 1 rfl) ?_
  refine lv_iload_n hx hb dX11_skin_2 rfl (lv_at hl 2 rfl) ?_
  refine t_cVi (n := 2) (C := RX11) (T := TX11) (N := 16) (As := [.int p1, .int p2]) (rest := []) X hT (kt364_X11_isSkin l G tag L F hT.2.2.2 p0 p1 p2 m0 g0) m0 g0 rfl rfl qw_823 qw_824 qw_825 qw_2 qw_826 ⟨rfl, by decide +kernel, by decide +kernel, by decide +kernel⟩ ⟨Nat.le_of_ble_eq_true rfl, Nat.le_of_ble_eq_true rfl⟩ hl rfl rfl (Nat.le_of_ble_eq_true rfl) dX11_skin_3 ⟨Nat.le_of_ble_eq_true rfl, Nat.le_of_ble_eq_true rfl⟩ (fun z131871 F9 H locs hT hz131871 => ?_)
  obtain ⟨fz131871, hz131871⟩ := hz131871
  rw [fz131871] at hT
  obtain ⟨hz131871, iz131871⟩ := hz131871
  refine lv_if_eq (tgt := 19) hx hb dX11_skin_6 (by decide) (fun c131872 => ?_) (fun c131872 => ?_)
  · have w131873 := cv_eq (rfl : z131871.toInt = z131871.toInt) (by decide : (0 : Int32).toInt = 0) c131872
    exact K19  _ _ _ _  hT hfr  (lv_sub hl [0, 1, 2, 3] rfl)
  · have w131874 := cv_ne (rfl : z131871.toInt = z131871.toInt) (by decide : (0 : Int32).toInt = 0) c131872
    have w131875 := (fun h => (iz131871 h).1) (by omega)
    have w131876 := (fun h => (iz131871 h).2) (by omega)
    refine lv_iload_n hx hb dX11_skin_9 rfl (lv_at hl 3 rfl) ?_
    refine lv_if_lt (tgt := 19) hx hb dX11_skin_10 (by decide) (fun c131877 => ?_) (fun c131877 => ?_)
    · have w131878 := cv_lt (rfl : p3.toInt = p3.toInt) (by decide : (0 : Int32).toInt = 0) c131877
      exact K19  _ _ _ _  hT hfr  (lv_sub hl [0, 1, 2, 3] rfl)
    · have w131879 := cv_nlt (rfl : p3.toInt = p3.toInt) (by decide : (0 : Int32).toInt = 0) c131877
      refine lv_iload_n hx hb dX11_skin_13 rfl (lv_at hl 3 rfl) ?_
      refine lv_bipush (v := 8) hx hb dX11_skin_14 (by decide) ?_
      refine lv_icmp_lt (tgt := 25) hx hb dX11_skin_16 (by decide) (fun c131880 => ?_) (fun c131880 => ?_)
      · have w131881 := cv_lt (rfl : p3.toInt = p3.toInt) (by decide : (8 : Int32).toInt = 8) c131880
        refine lv_aload_n hx hb dX11_skin_25 rfl (lv_at hl 0 rfl) ?_
        refine lv_aload_n hx hb dX11_skin_26 rfl (lv_at hl 0 rfl) ?_
        refine t_get (C := RX11) (T := TX11) (N := 16) X hT m0 g0 rfl rfl 5 (by decide) qw_23 inlX11 rfl dX11_skin_27 (fun v131882 hv131882 ov131882 => ?_)
        obtain ⟨b131883, rfl, mb131883, gb131883⟩ := okV_r ov131882
        have gb131883 : tag b131883 = 19 := tg_of gb131883
        refine lv_iload_n hx hb dX11_skin_30 rfl (lv_at hl 1 rfl) ?_
        refine lv_iload_n hx hb dX11_skin_31 rfl (lv_at hl 2 rfl) ?_
        refine lv_iload_n hx hb dX11_skin_32 rfl (lv_at hl 3 rfl) ?_
        refine t_cVi (n := 3) (C := RX7) (T := TX7) (N := 7) (As := [.int p1, .int p2, .int p3]) (rest := [.ref p0]) X hT (kt309_X7_partOf l G tag L F hT.2.2.2 b131883 p1 p2 p3 mb131883 gb131883) mb131883 gb131883 rfl rfl qw_831 qw_778 qw_779 qw_22 qw_780 ⟨rfl, by decide +kernel, by decide +kernel, by decide +kernel⟩ ⟨Nat.le_of_ble_eq_true rfl, Nat.le_of_ble_eq_true rfl⟩ hl rfl rfl (Nat.le_of_ble_eq_true rfl) dX11_skin_33 ⟨Nat.le_of_ble_eq_true rfl, Nat.le_of_ble_eq_true rfl⟩ (fun z131884 F9 H locs hT hz131884 => ?_)
        obtain ⟨fz131884, hz131884⟩ := hz131884
        rw [fz131884] at hT
        refine t_cVi (n := 1) (C := RX11) (T := TX11) (N := 16) (As := [.int z131884]) (rest := []) X hT (kt350_X11_answer l G tag L F hT.2.2.2 p0 z131884 m0 g0) m0 g0 rfl rfl qw_463 qw_464 qw_465 qw_2 qw_466 ⟨rfl, by decide +kernel, by decide +kernel, by decide +kernel⟩ ⟨Nat.le_of_ble_eq_true rfl, Nat.le_of_ble_eq_true rfl⟩ hl rfl rfl (Nat.le_of_ble_eq_true rfl) dX11_skin_36 ⟨Nat.le_of_ble_eq_true rfl, Nat.le_of_ble_eq_true rfl⟩ (fun z131885 F H locs hT hz131885 => ?_)
        obtain ⟨hz131885, yz131885⟩ := hz131885
        have hv131882 := (yz131885.1 _ 5 (Or.inr (by decide))).trans hv131882
        have hfr : (∀ b j : Nat, (tag b ≠ 26 ∨ j ≠ 13) → fld F b j = fld Fo b j) ∧ EF tag F Fo := ⟨fun b j n26_13 => (yz131885.1 b j n26_13).trans (hfr.1 b j n26_13), fun b j hb => (yz131885.2 b j hb).trans (hfr.2 b j hb)⟩
        exact t_iret hQ X hT (⟨rg_all _, hfr⟩) (Nat.le_of_ble_eq_true rfl) (Nat.le_of_ble_eq_true rfl) dX11_skin_39
      · have w131886 := cv_nlt (rfl : p3.toInt = p3.toInt) (by decide : (8 : Int32).toInt = 8) c131880
        exact K19  _ _ _ _  hT hfr  (lv_sub hl [0, 1, 2, 3] rfl)
set_option maxHeartbeats 4000000 in
set_option maxRecDepth 100000 in
theorem kt413_X11_skinsIn (l : Launch) (G : KG) (tag : Nat → Nat) (L : List Nat) (Fo : Nat → va_E) (ho : okT G ttC tag L Fo) (p0 : Nat) (p1 : Int32) (m0 : p0 ∈ L) (g0 : tag p0 = 26) : TMi l yX11_skinsIn cX11_skinsIn 2 (some .int) { frames := 7, cells := 0, slots := 0, locals := 179 } G ttC tag L Fo [.ref p0, .int p1] (fun r F1 => ((-2147483648) ≤ r.toInt ∧ r.toInt ≤ 2147483647) ∧ ((∀ b j : Nat, (tag b ≠ 19 ∨ j ≠ 0) → (tag b ≠ 19 ∨ j ≠ 1) → (tag b ≠ 26 ∨ j ≠ 13) → fld F1 b j = fld Fo b j) ∧ EF tag F1 Fo)) := by
  refine t_bodyi (y := yX11_skinsIn) (cd := cX11_skinsIn) (mL := 2) (rt := (some .int)) (rm := { frames := 7, cells := 0, slots := 0, locals := 179 }) (av := [.ref p0, .int p1]) (by decide) (Nat.le_of_ble_eq_true rfl) ho ?_
  intro p e s m args below meth c ls A Q hQ X hT hl
  have hx := X.1.1
  have hb := X.1.2.1
  have hl : lv_has ls 2 [(0, .ref p0), (1, .int p1)] := hl
  have rp1 := rg_all p1
  obtain ⟨F, hFo⟩ : ∃ F : Nat → va_E, F = Fo := ⟨_, rfl⟩
  rw [← hFo] at hT
  have hfr : (∀ b j : Nat, (tag b ≠ 19 ∨ j ≠ 0) → (tag b ≠ 19 ∨ j ≠ 1) → (tag b ≠ 26 ∨ j ≠ 13) → fld F b j = fld Fo b j) ∧ EF tag F Fo := by
    rw [hFo]
    exact ⟨by intros; rfl, fun _ _ _ => rfl⟩
  have K23 : ∀ (z132096 : Int32) (F : Nat → va_E) (H : Heap) (locs : List Loc) (ls : Array Slot), (1 ≤ z132096.toInt ∧ z132096.toInt ≤ 1) → TH G ttC A s tag L F H locs → ((∀ b j : Nat, (tag b ≠ 19 ∨ j ≠ 0) → (tag b ≠ 19 ∨ j ≠ 1) → (tag b ≠ 26 ∨ j ≠ 13) → fld F b j = fld Fo b j) ∧ EF tag F Fo) → fld F p0 2 = .int z132096 → lv_has ls 2 [(0, .ref p0), (1, .int p1)] → W p l e { frames := 7, cells := 0, slots := 0, locals := 179 } s m args below meth c H locs 0 0 Q (F0 m 23 ls []) := by
    intro z132096 F H locs ls rz132096 hT hfr qz132096 hl
    refine lv_aload_n hx hb dX11_skinsIn_23 rfl (lv_at hl 0 rfl) ?_
    refine lv_iconst (v := 2) hx hb dX11_skinsIn_24 (by decide) ?_
    refine t_cVi (n := 1) (C := RX11) (T := TX11) (N := 16) (As := [.int 2]) (rest := []) X hT (kt357_X11_refuse l G tag L F hT.2.2.2 p0 2 m0 g0) m0 g0 rfl rfl qw_152 qw_153 qw_154 qw_2 qw_155 ⟨rfl, by decide +kernel, by decide +kernel, by decide +kernel⟩ ⟨Nat.le_of_ble_eq_true rfl, Nat.le_of_ble_eq_true rfl⟩ hl rfl rfl (Nat.le_of_ble_eq_true rfl) dX11_skinsIn_25 ⟨Nat.le_of_ble_eq_true rfl, Nat.le_of_ble_eq_true rfl⟩ (fun z132097 F H locs hT hz132097 => ?_)
    obtain ⟨hz132097, yz132097⟩ := hz132097
    have qz132096 := (yz132097.1 _ 2 (Or.inr (by decide))).trans qz132096
    have hfr : (∀ b j : Nat, (tag b ≠ 19 ∨ j ≠ 0) → (tag b ≠ 19 ∨ j ≠ 1) → (tag b ≠ 26 ∨ j ≠ 13) → fld F b j = fld Fo b j) ∧ EF tag F Fo := ⟨fun b j n19_0 n19_1 n26_13 => (yz132097.1 b j n26_13).trans (hfr.1 b j n19_0 n19_1 n26_13), fun b j hb => (yz132097.2 b j hb).trans (hfr.2 b j hb)⟩
    exact t_iret hQ X hT (⟨rg_all _, hfr⟩) (Nat.le_of_ble_eq_true rfl) (Nat.le_of_ble_eq_true rfl) dX11_skinsIn_28
  refine lv_aload_n hx hb dX11_skinsIn_0 rfl (lv_at hl 0 rfl) ?_
  refine t_get (C := RX11) (T := TX11) (N := 16) X hT m0 g0 rfl rfl 2 (by decide) qw_150 inlX11 rfl dX11_skinsIn_1 (fun v132098 hv132098 ov132098 => ?_)
  obtain ⟨z132099, rfl, rz132099⟩ := okV_i ov132098
  refine lv_if_ne (tgt := 13) hx hb dX11_skinsIn_4 (by decide) (fun c132100 => ?_) (fun c132100 => ?_)
  · have w132101 := cv_ne (rfl : z132099.toInt = z132099.toInt) (by decide : (0 : Int32).toInt = 0) c132100
    refine lv_iload_n hx hb dX11_skinsIn_13 rfl (lv_at hl 1 rfl) ?_
    refine lv_if_lt (tgt := 23) hx hb dX11_skinsIn_14 (by decide) (fun c132102 => ?_) (fun c132102 => ?_)
    · have w132103 := cv_lt (rfl : p1.toInt = p1.toInt) (by decide : (0 : Int32).toInt = 0) c132102
      exact K23 z132099 _ _ _ _ (by omega) hT hfr hv132098 (lv_sub hl [0, 1] rfl)
    · have w132104 := cv_nlt (rfl : p1.toInt = p1.toInt) (by decide : (0 : Int32).toInt = 0) c132102
      refine lv_iload_n hx hb dX11_skinsIn_17 rfl (lv_at hl 1 rfl) ?_
      refine lv_bipush (v := 60) hx hb dX11_skinsIn_18 (by decide) ?_
      refine lv_icmp_le (tgt := 29) hx hb dX11_skinsIn_20 (by decide) (fun c132105 => ?_) (fun c132105 => ?_)
      · have w132106 := cv_le (rfl : p1.toInt = p1.toInt) (by decide : (60 : Int32).toInt = 60) c132105
        refine lv_aload_n hx hb dX11_skinsIn_29 rfl (lv_at hl 0 rfl) ?_
        refine lv_iload_n hx hb dX11_skinsIn_30 rfl (lv_at hl 1 rfl) ?_
        refine t_cVv (n := 1) (C := RX11) (T := TX11) (N := 16) (As := [.int p1]) (rest := []) X hT (kt375_X11_goTo l G tag L F hT.2.2.2 p0 p1 m0 g0 (by omega)) m0 g0 rfl rfl qw_1092 qw_1093 qw_1094 qw_2 qw_1095 ⟨rfl, by decide +kernel, by decide +kernel, by decide +kernel⟩ ⟨Nat.le_of_ble_eq_true rfl, Nat.le_of_ble_eq_true rfl⟩ hl rfl rfl (Nat.le_of_ble_eq_true rfl) dX11_skinsIn_31 ⟨Nat.le_of_ble_eq_true rfl, Nat.le_of_ble_eq_true rfl⟩ (fun F H locs hT hz132107 => ?_)
        have yz132107 := hz132107
        have hv132098 := (yz132107.1 _ 2 (Or.inr (by decide)) (Or.inr (by decide))).trans hv132098
        have hfr : (∀ b j : Nat, (tag b ≠ 19 ∨ j ≠ 0) → (tag b ≠ 19 ∨ j ≠ 1) → (tag b ≠ 26 ∨ j ≠ 13) → fld F b j = fld Fo b j) ∧ EF tag F Fo := ⟨fun b j n19_0 n19_1 n26_13 => (yz132107.1 b j n19_0 n19_1).trans (hfr.1 b j n19_0 n19_1 n26_13), fun b j hb => (yz132107.2 b j hb).trans (hfr.2 b j hb)⟩
        refine lv_aload_n hx hb dX11_skinsIn_34 rfl (lv_at hl 0 rfl) ?_
        refine lv_aload_n hx hb dX11_skinsIn_35 rfl (lv_at hl 0 rfl) ?_
        refine t_get (C := RX11) (T := TX11) (N := 16) X hT m0 g0 rfl rfl 7 (by decide) qw_25 inlX11 rfl dX11_skinsIn_36 (fun v132108 hv132108 ov132108 => ?_)
        obtain ⟨b132109, rfl, mb132109, gb132109⟩ := okV_r ov132108
        have gb132109 : tag b132109 = 19 := tg_of gb132109
        refine t_cVi (n := 0) (C := RX7) (T := TX7) (N := 7) (As := []) (rest := [.ref p0]) X hT (kt317_X7_skinsOfAll l G tag L F hT.2.2.2 b132109 mb132109 gb132109) mb132109 gb132109 rfl rfl qw_1182 qw_1183 qw_1184 qw_22 qw_1185 ⟨rfl, by decide +kernel, by decide +kernel, by decide +kernel⟩ ⟨Nat.le_of_ble_eq_true rfl, Nat.le_of_ble_eq_true rfl⟩ hl rfl rfl (Nat.le_of_ble_eq_true rfl) dX11_skinsIn_39 ⟨Nat.le_of_ble_eq_true rfl, Nat.le_of_ble_eq_true rfl⟩ (fun z132110 F9 H locs hT hz132110 => ?_)
        obtain ⟨fz132110, hz132110⟩ := hz132110
        rw [fz132110] at hT
        refine t_cVi (n := 1) (C := RX11) (T := TX11) (N := 16) (As := [.int z132110]) (rest := []) X hT (kt350_X11_answer l G tag L F hT.2.2.2 p0 z132110 m0 g0) m0 g0 rfl rfl qw_463 qw_464 qw_465 qw_2 qw_466 ⟨rfl, by decide +kernel, by decide +kernel, by decide +kernel⟩ ⟨Nat.le_of_ble_eq_true rfl, Nat.le_of_ble_eq_true rfl⟩ hl rfl rfl (Nat.le_of_ble_eq_true rfl) dX11_skinsIn_42 ⟨Nat.le_of_ble_eq_true rfl, Nat.le_of_ble_eq_true rfl⟩ (fun z132111 F H locs hT hz132111 => ?_)
        obtain ⟨hz132111, yz132111⟩ := hz132111
        have hv132098 := (yz132111.1 _ 2 (Or.inr (by decide))).trans hv132098
        have hv132108 := (yz132111.1 _ 7 (Or.inr (by decide))).trans hv132108
        have hfr : (∀ b j : Nat, (tag b ≠ 19 ∨ j ≠ 0) → (tag b ≠ 19 ∨ j ≠ 1) → (tag b ≠ 26 ∨ j ≠ 13) → fld F b j = fld Fo b j) ∧ EF tag F Fo := ⟨fun b j n19_0 n19_1 n26_13 => (yz132111.1 b j n26_13).trans (hfr.1 b j n19_0 n19_1 n26_13), fun b j hb => (yz132111.2 b j hb).trans (hfr.2 b j hb)⟩
        exact t_iret hQ X hT (⟨rg_all _, hfr⟩) (Nat.le_of_ble_eq_true rfl) (Nat.le_of_ble_eq_true rfl) dX11_skinsIn_45
      · have w132112 := cv_nle (rfl : p1.toInt = p1.toInt) (by decide : (60 : Int32).toInt = 60) c132105
        exact K23 z132099 _ _ _ _ (by omega) hT hfr hv132098 (lv_sub hl [0, 1] rfl)
  · have w132113 := cv_eq (rfl : z132099.toInt = z132099.toInt) (by decide : (0 : Int32).toInt = 0) c132100
    refine lv_aload_n hx hb dX11_skinsIn_7 rfl (lv_at hl 0 rfl) ?_
    refine lv_iconst (v := 1) hx hb dX11_skinsIn_8 (by decide) ?_
    refine t_cVi (n := 1) (C := RX11) (T := TX11) (N := 16) (As := [.int 1]) (rest := []) X hT (kt357_X11_refuse l G tag L F hT.2.2.2 p0 1 m0 g0) m0 g0 rfl rfl qw_152 qw_153 qw_154 qw_2 qw_155 ⟨rfl, by decide +kernel, by decide +kernel, by decide +kernel⟩ ⟨Nat.le_of_ble_eq_true rfl, Nat.le_of_ble_eq_true rfl⟩ hl rfl rfl (Nat.le_of_ble_eq_true rfl) dX11_skinsIn_9 ⟨Nat.le_of_ble_eq_true rfl, Nat.le_of_ble_eq_true rfl⟩ (fun z132114 F H locs hT hz132114 => ?_)
    obtain ⟨hz132114, yz132114⟩ := hz132114
    have hv132098 := (yz132114.1 _ 2 (Or.inr (by decide))).trans hv132098
    have hfr : (∀ b j : Nat, (tag b ≠ 19 ∨ j ≠ 0) → (tag b ≠ 19 ∨ j ≠ 1) → (tag b ≠ 26 ∨ j ≠ 13) → fld F b j = fld Fo b j) ∧ EF tag F Fo := ⟨fun b j n19_0 n19_1 n26_13 => (yz132114.1 b j n26_13).trans (hfr.1 b j n19_0 n19_1 n26_13), fun b j hb => (yz132114.2 b j hb).trans (hfr.2 b j hb)⟩
    exact t_iret hQ X hT (⟨rg_all _, hfr⟩) (Nat.le_of_ble_eq_true rfl) (Nat.le_of_ble_eq_true rfl) dX11_skinsIn_12
set_option maxHeartbeats 4000000 in
set_option maxRecDepth 100000 in
theorem kt414_X11_soonest (l : Launch) (G : KG) (tag : Nat → Nat) (L : List Nat) (Fo : Nat → va_E) (ho : okT G ttC tag L Fo) (p0 : Nat) (p1 : Int32) (m0 : p0 ∈ L) (g0 : tag p0 = 26) : TMi l yX11_soonest cX11_soonest 2 (some .int) { frames := 4, cells := 0, slots := 0, locals := 86 } G ttC tag L Fo [.ref p0, .int p1] (fun r F1 => ((-2147483648) ≤ r.toInt ∧ r.toInt ≤ 2147483647) ∧ ((∀ b j : Nat, (tag b ≠ 22 ∨ j ≠ 2) → (tag b ≠ 26 ∨ j ≠ 13) → fld F1 b j = fld Fo b j) ∧ EF tag F1 Fo)) := by
  refine t_bodyi (y := yX11_soonest) (cd := cX11_soonest) (mL := 2) (rt := (some .int)) (rm := { frames := 4, cells := 0, slots := 0, locals := 86 }) (av := [.ref p0, .int p1]) (by decide) (Nat.le_of_ble_eq_true rfl) ho ?_
  intro p e s m args below meth c ls A Q hQ X hT hl
  have hx := X.1.1
  have hb := X.1.2.1
  have hl : lv_has ls 2 [(0, .ref p0), (1, .int p1)] := hl
  have rp1 := rg_all p1
  obtain ⟨F, hFo⟩ : ∃ F : Nat → va_E, F = Fo := ⟨_, rfl⟩
  rw [← hFo] at hT
  have hfr : (∀ b j : Nat, (tag b ≠ 22 ∨ j ≠ 2) → (tag b ≠ 26 ∨ j ≠ 13) → fld F b j = fld Fo b j) ∧ EF tag F Fo := by
    rw [hFo]
    exact ⟨by intros; rfl, fun _ _ _ => rfl⟩
  have K57 : ∀ (z132424 : Int32) (b132425 : Nat) (F : Nat → va_E) (H : Heap) (locs : List Loc) (ls : Array Slot), (b132425 ∈ L) → (tag b132425 = 26) → (0 ≤ p1.toInt ∧ p1.toInt ≤ 5) → TH G ttC A s tag L F H locs → ((∀ b j : Nat, (tag b ≠ 22 ∨ j ≠ 2) → (tag b ≠ 26 ∨ j ≠ 13) → fld F b j = fld Fo b j) ∧ EF tag F Fo) → lv_has ls 2 [(0, .ref p0), (1, .int p1)] → W p l e { frames := 4, cells := 0, slots := 0, locals := 86 } s m args below meth c H locs 0 0 Q (F0 m 57 ls [.int z132424, .ref b132425]) := by
    intro z132424 b132425 F H locs ls mb132425 gb132425 r9s132423 hT hfr hl
    have rz132424 := rg_all z132424
    refine t_cVi (n := 1) (C := RX11) (T := TX11) (N := 16) (As := [.int z132424]) (rest := []) X hT (kt350_X11_answer l G tag L F hT.2.2.2 b132425 z132424 mb132425 gb132425) mb132425 gb132425 rfl rfl qw_463 qw_464 qw_465 qw_2 qw_466 ⟨rfl, by decide +kernel, by decide +kernel, by decide +kernel⟩ ⟨Nat.le_of_ble_eq_true rfl, Nat.le_of_ble_eq_true rfl⟩ hl rfl rfl (Nat.le_of_ble_eq_true rfl) dX11_soonest_57 ⟨Nat.le_of_ble_eq_true rfl, Nat.le_of_ble_eq_true rfl⟩ (fun z132426 F H locs hT hz132426 => ?_)
    obtain ⟨hz132426, yz132426⟩ := hz132426
    have hfr : (∀ b j : Nat, (tag b ≠ 22 ∨ j ≠ 2) → (tag b ≠ 26 ∨ j ≠ 13) → fld F b j = fld Fo b j) ∧ EF tag F Fo := ⟨fun b j n22_2 n26_13 => (yz132426.1 b j n26_13).trans (hfr.1 b j n22_2 n26_13), fun b j hb => (yz132426.2 b j hb).trans (hfr.2 b j hb)⟩
    exact t_iret hQ X hT (⟨rg_all _, hfr⟩) (Nat.le_of_ble_eq_true rfl) (Nat.le_of_ble_eq_true rfl) dX11_soonest_60
  refine lv_aload_n hx hb dX11_soonest_0 rfl (lv_at hl 0 rfl) ?_
  refine lv_iload_n hx hb dX11_soonest_1 rfl (lv_at hl 1 rfl) ?_
  refine t_cVi (n := 1) (C := RX11) (T := TX11) (N := 16) (As := [.int p1]) (rest := []) X hT (kt384_X11_isWall l G tag L F hT.2.2.2 p0 p1 m0 g0) m0 g0 rfl rfl qw_1379 qw_1380 qw_1381 qw_2 qw_1382 ⟨rfl, by decide +kernel, by decide +kernel, by decide +kernel⟩ ⟨Nat.le_of_ble_eq_true rfl, Nat.le_of_ble_eq_true rfl⟩ hl rfl rfl (Nat.le_of_ble_eq_true rfl) dX11_soonest_2 ⟨Nat.le_of_ble_eq_true rfl, Nat.le_of_ble_eq_true rfl⟩ (fun z132427 F9 H locs hT hz132427 => ?_)
  obtain ⟨fz132427, hz132427⟩ := hz132427
  rw [fz132427] at hT
  obtain ⟨hz132427, iz132427⟩ := hz132427
  refine lv_if_ne (tgt := 14) hx hb dX11_soonest_5 (by decide) (fun c132428 => ?_) (fun c132428 => ?_)
  · have w132429 := cv_ne (rfl : z132427.toInt = z132427.toInt) (by decide : (0 : Int32).toInt = 0) c132428
    have w132430 := (fun h => (iz132427 h)) (by omega)
    refine lv_aload_n hx hb dX11_soonest_14 rfl (lv_at hl 0 rfl) ?_
    refine t_get (C := RX11) (T := TX11) (N := 16) X hT m0 g0 rfl rfl 11 (by decide) qw_41 inlX11 rfl dX11_soonest_15 (fun v132431 hv132431 ov132431 => ?_)
    obtain ⟨b132432, rfl, mb132432, gb132432⟩ := okV_r ov132431
    have gb132432 : tag b132432 = 22 := tg_of gb132432
    refine lv_aload_n hx hb dX11_soonest_18 rfl (lv_at hl 0 rfl) ?_
    refine t_get (C := RX11) (T := TX11) (N := 16) X hT m0 g0 rfl rfl 3 (by decide) qw_18 inlX11 rfl dX11_soonest_19 (fun v132433 hv132433 ov132433 => ?_)
    obtain ⟨b132434, rfl, mb132434, gb132434⟩ := okV_r ov132433
    have gb132434 : tag b132434 = 18 := tg_of gb132434
    refine lv_aload_n hx hb dX11_soonest_22 rfl (lv_at hl 0 rfl) ?_
    refine t_get (C := RX11) (T := TX11) (N := 16) X hT m0 g0 rfl rfl 5 (by decide) qw_23 inlX11 rfl dX11_soonest_23 (fun v132435 hv132435 ov132435 => ?_)
    obtain ⟨b132436, rfl, mb132436, gb132436⟩ := okV_r ov132435
    have gb132436 : tag b132436 = 19 := tg_of gb132436
    refine t_get (C := RX7) (T := TX7) (N := 7) X hT mb132436 gb132436 rfl rfl 0 (by decide) qw_1225 inlX7 rfl dX11_soonest_26 (fun v132437 hv132437 ov132437 => ?_)
    obtain ⟨z132438, rfl, rz132438⟩ := okV_i ov132437
    refine t_cVv (n := 2) (C := RX9) (T := TX9) (N := 6) (As := [.ref b132434, .int z132438]) (rest := []) X hT (kt393_X9_lookAtAll l G tag L F hT.2.2.2 b132432 b132434 z132438 mb132432 gb132432 mb132434 gb132434) mb132432 gb132432 rfl rfl qw_1333 qw_1334 qw_1335 qw_40 qw_1336 ⟨rfl, by decide +kernel, by decide +kernel, by decide +kernel⟩ ⟨Nat.le_of_ble_eq_true rfl, Nat.le_of_ble_eq_true rfl⟩ hl rfl rfl (Nat.le_of_ble_eq_true rfl) dX11_soonest_29 ⟨Nat.le_of_ble_eq_true rfl, Nat.le_of_ble_eq_true rfl⟩ (fun F H locs hT hz132439 => ?_)
    have yz132439 := hz132439
    have hv132431 := (yz132439.1 _ 11 (Or.inr (by decide))).trans hv132431
    have hv132433 := (yz132439.1 _ 3 (Or.inr (by decide))).trans hv132433
    have hv132435 := (yz132439.1 _ 5 (Or.inr (by decide))).trans hv132435
    have hv132437 := (yz132439.1 _ 0 (Or.inr (by decide))).trans hv132437
    have hfr : (∀ b j : Nat, (tag b ≠ 22 ∨ j ≠ 2) → (tag b ≠ 26 ∨ j ≠ 13) → fld F b j = fld Fo b j) ∧ EF tag F Fo := ⟨fun b j n22_2 n26_13 => (yz132439.1 b j n22_2).trans (hfr.1 b j n22_2 n26_13), fun b j hb => (yz132439.2 b j hb).trans (hfr.2 b j hb)⟩
    refine lv_aload_n hx hb dX11_soonest_32 rfl (lv_at hl 0 rfl) ?_
    refine lv_aload_n hx hb dX11_soonest_33 rfl (lv_at hl 0 rfl) ?_
    refine t_get (C := RX11) (T := TX11) (N := 16) X hT m0 g0 rfl rfl 11 (by decide) qw_41 inlX11 rfl dX11_soonest_34 (fun v132440 hv132440 ov132440 => ?_)
    obtain rfl : v132440 = .ref b132432 := hv132440.symm.trans hv132431
    refine t_get (C := RX9) (T := TX9) (N := 6) X hT mb132432 gb132432 rfl rfl 2 (by decide) qw_1332 inlX9 rfl dX11_soonest_37 (fun v132441 hv132441 ov132441 => ?_)
    obtain ⟨z132442, rfl, rz132442⟩ := okV_i ov132441
    refine lv_if_ne (tgt := 48) hx hb dX11_soonest_40 (by decide) (fun c132443 => ?_) (fun c132443 => ?_)
    · have w132444 := cv_ne (rfl : z132442.toInt = z132442.toInt) (by decide : (0 : Int32).toInt = 0) c132443
      refine lv_aload_n hx hb dX11_soonest_48 rfl (lv_at hl 0 rfl) ?_
      refine t_get (C := RX11) (T := TX11) (N := 16) X hT m0 g0 rfl rfl 11 (by decide) qw_41 inlX11 rfl dX11_soonest_49 (fun v132445 hv132445 ov132445 => ?_)
      obtain rfl : v132445 = .ref b132432 := hv132445.symm.trans hv132431
      refine t_get (C := RX9) (T := TX9) (N := 6) X hT mb132432 gb132432 rfl rfl 3 (by decide) qw_1400 inlX9 rfl dX11_soonest_52 (fun v132446 hv132446 ov132446 => ?_)
      obtain ⟨b132447, rfl, mb132447, gb132447⟩ := okV_r ov132446
      have gb132447 : tag b132447 = 7 := tg_of gb132447
      refine lv_iload_n hx hb dX11_soonest_55 rfl (lv_at hl 1 rfl) ?_
      refine t_ild X hT mb132447 gb132447 rfl (by omega) dX11_soonest_56 (fun z132448 vz132448 rz132448 => ?_)
      have rz132448 : (-2147483648) ≤ z132448.toInt ∧ z132448.toInt ≤ 2147483647 := rz132448
      exact K57 z132448 p0 _ _ _ _ m0 g0 (by omega) hT hfr  (lv_sub hl [0, 1] rfl)
    · have w132449 := cv_eq (rfl : z132442.toInt = z132442.toInt) (by decide : (0 : Int32).toInt = 0) c132443
      refine lv_bipush (v := (-2)) hx hb dX11_soonest_43 (by decide) ?_
      refine lv_goto (tgt := 57) hx hb dX11_soonest_45 (by decide) ?_
      exact K57 (-2) p0 _ _ _ _ m0 g0 (by omega) hT hfr  (lv_sub hl [0, 1] rfl)
  · have w132450 := cv_eq (rfl : z132427.toInt = z132427.toInt) (by decide : (0 : Int32).toInt = 0) c132428
    refine lv_aload_n hx hb dX11_soonest_8 rfl (lv_at hl 0 rfl) ?_
    refine lv_iconst (v := 1) hx hb dX11_soonest_9 (by decide) ?_
    refine t_cVi (n := 1) (C := RX11) (T := TX11) (N := 16) (As := [.int 1]) (rest := []) X hT (kt357_X11_refuse l G tag L F hT.2.2.2 p0 1 m0 g0) m0 g0 rfl rfl qw_152 qw_153 qw_154 qw_2 qw_155 ⟨rfl, by decide +kernel, by decide +kernel, by decide +kernel⟩ ⟨Nat.le_of_ble_eq_true rfl, Nat.le_of_ble_eq_true rfl⟩ hl rfl rfl (Nat.le_of_ble_eq_true rfl) dX11_soonest_10 ⟨Nat.le_of_ble_eq_true rfl, Nat.le_of_ble_eq_true rfl⟩ (fun z132451 F H locs hT hz132451 => ?_)
    obtain ⟨hz132451, yz132451⟩ := hz132451
    have hfr : (∀ b j : Nat, (tag b ≠ 22 ∨ j ≠ 2) → (tag b ≠ 26 ∨ j ≠ 13) → fld F b j = fld Fo b j) ∧ EF tag F Fo := ⟨fun b j n22_2 n26_13 => (yz132451.1 b j n26_13).trans (hfr.1 b j n22_2 n26_13), fun b j hb => (yz132451.2 b j hb).trans (hfr.2 b j hb)⟩
    exact t_iret hQ X hT (⟨rg_all _, hfr⟩) (Nat.le_of_ble_eq_true rfl) (Nat.le_of_ble_eq_true rfl) dX11_soonest_13
set_option maxHeartbeats 4000000 in
set_option maxRecDepth 100000 in
theorem kt415_X11_stone (l : Launch) (G : KG) (tag : Nat → Nat) (L : List Nat) (Fo : Nat → va_E) (ho : okT G ttC tag L Fo) (p0 : Nat) (p1 : Int32) (p2 : Int32) (m0 : p0 ∈ L) (g0 : tag p0 = 26) : TMi l yX11_stone cX11_stone 3 (some .int) { frames := 1, cells := 0, slots := 0, locals := 23 } G ttC tag L Fo [.ref p0, .int p1, .int p2] (fun r F1 => ((-2147483648) ≤ r.toInt ∧ r.toInt ≤ 2147483647) ∧ ((∀ b j : Nat, (tag b ≠ 26 ∨ j ≠ 13) → fld F1 b j = fld Fo b j) ∧ EF tag F1 Fo)) := by
  refine t_bodyi (y := yX11_stone) (cd := cX11_stone) (mL := 3) (rt := (some .int)) (rm := { frames := 1, cells := 0, slots := 0, locals := 23 }) (av := [.ref p0, .int p1, .int p2]) (by decide) (Nat.le_of_ble_eq_true rfl) ho ?_
  intro p e s m args below meth c ls A Q hQ X hT hl
  have hx := X.1.1
  have hb := X.1.2.1
  have hl : lv_has ls 3 [(0, .ref p0), (1, .int p1), (2, .int p2)] := hl
  have rp1 := rg_all p1
  have rp2 := rg_all p2
  obtain ⟨F, hFo⟩ : ∃ F : Nat → va_E, F = Fo := ⟨_, rfl⟩
  rw [← hFo] at hT
  have hfr : (∀ b j : Nat, (tag b ≠ 26 ∨ j ≠ 13) → fld F b j = fld Fo b j) ∧ EF tag F Fo := by
    rw [hFo]
    exact ⟨by intros; rfl, fun _ _ _ => rfl⟩
  have K17 : ∀  (F : Nat → va_E) (H : Heap) (locs : List Loc) (ls : Array Slot), TH G ttC A s tag L F H locs → ((∀ b j : Nat, (tag b ≠ 26 ∨ j ≠ 13) → fld F b j = fld Fo b j) ∧ EF tag F Fo) → lv_has ls 3 [(0, .ref p0), (1, .int p1), (2, .int p2)] → W p l e { frames := 1, cells := 0, slots := 0, locals := 23 } s m args below meth c H locs 0 0 Q (F0 m 17 ls []) := by
    intro F H locs ls hT hfr hl
    refine lv_aload_n hx hb dX11_stone_17 rfl (lv_at hl 0 rfl) ?_
    refine lv_iconst (v := 1) hx hb dX11_stone_18 (by decide) ?_
    refine t_cVi (n := 1) (C := RX11) (T := TX11) (N := 16) (As := [.int 1]) (rest := []) X hT (kt357_X11_refuse l G tag L F hT.2.2.2 p0 1 m0 g0) m0 g0 rfl rfl qw_152 qw_153 qw_154 qw_2 qw_155 ⟨rfl, by decide +kernel, by decide +kernel, by decide +kernel⟩ ⟨Nat.le_of_ble_eq_true rfl, Nat.le_of_ble_eq_true rfl⟩ hl rfl rfl (Nat.le_of_ble_eq_true rfl) dX11_stone_19 ⟨Nat.le_of_ble_eq_true rfl, Nat.le_of_ble_eq_true rfl⟩ (fun z132628 F H locs hT hz132628 => ?_)
    obtain ⟨hz132628, yz132628⟩ := hz132628
    have hfr : (∀ b j : Nat, (tag b ≠ 26 ∨ j ≠ 13) → fld F b j = fld Fo b j) ∧ EF tag F Fo := ⟨fun b j n26_13 => (yz132628.1 b j n26_13).trans (hfr.1 b j n26_13), fun b j hb => (yz132628.2 b j hb).trans (hfr.2 b j hb)⟩
    exact t_iret hQ X hT (⟨rg_all _, hfr⟩) (Nat.le_of_ble_eq_true rfl) (Nat.le_of_ble_eq_true rfl) dX11_stone_22
  refine lv_aload_n hx hb dX11_stone_0 rfl (lv_at hl 0 rfl) ?_
  refine lv_iload_n hx hb dX11_stone_1 rfl (lv_at hl 1 rfl) ?_
  refine t_cVi (n := 1) (C := RX11) (T := TX11) (N := 16) (As := [.int p1]) (rest := []) X hT (kt359_X11_isStone l G tag L F hT.2.2.2 p0 p1 m0 g0) m0 g0 rfl rfl qw_954 qw_955 qw_956 qw_2 qw_957 ⟨rfl, by decide +kernel, by decide +kernel, by decide +kernel⟩ ⟨Nat.le_of_ble_eq_true rfl, Nat.le_of_ble_eq_true rfl⟩ hl rfl rfl (Nat.le_of_ble_eq_true rfl) dX11_stone_2 ⟨Nat.le_of_ble_eq_true rfl, Nat.le_of_ble_eq_true rfl⟩ (fun z132629 F9 H locs hT hz132629 => ?_)
  obtain ⟨fz132629, hz132629⟩ := hz132629
  rw [fz132629] at hT
  refine lv_if_eq (tgt := 17) hx hb dX11_stone_5 (by decide) (fun c132630 => ?_) (fun c132630 => ?_)
  · have w132631 := cv_eq (rfl : z132629.toInt = z132629.toInt) (by decide : (0 : Int32).toInt = 0) c132630
    exact K17  _ _ _ _  hT hfr  (lv_sub hl [0, 1, 2] rfl)
  · have w132632 := cv_ne (rfl : z132629.toInt = z132629.toInt) (by decide : (0 : Int32).toInt = 0) c132630
    refine lv_iload_n hx hb dX11_stone_8 rfl (lv_at hl 2 rfl) ?_
    refine lv_if_lt (tgt := 17) hx hb dX11_stone_9 (by decide) (fun c132633 => ?_) (fun c132633 => ?_)
    · have w132634 := cv_lt (rfl : p2.toInt = p2.toInt) (by decide : (0 : Int32).toInt = 0) c132633
      exact K17  _ _ _ _  hT hfr  (lv_sub hl [0, 1, 2] rfl)
    · have w132635 := cv_nlt (rfl : p2.toInt = p2.toInt) (by decide : (0 : Int32).toInt = 0) c132633
      refine lv_iload_n hx hb dX11_stone_12 rfl (lv_at hl 2 rfl) ?_
      refine lv_iconst (v := 5) hx hb dX11_stone_13 (by decide) ?_
      refine lv_icmp_lt (tgt := 23) hx hb dX11_stone_14 (by decide) (fun c132636 => ?_) (fun c132636 => ?_)
      · have w132637 := cv_lt (rfl : p2.toInt = p2.toInt) (by decide : (5 : Int32).toInt = 5) c132636
        refine lv_aload_n hx hb dX11_stone_23 rfl (lv_at hl 0 rfl) ?_
        refine lv_aload_n hx hb dX11_stone_24 rfl (lv_at hl 0 rfl) ?_
        refine t_get (C := RX11) (T := TX11) (N := 16) X hT m0 g0 rfl rfl 3 (by decide) qw_18 inlX11 rfl dX11_stone_25 (fun v132638 hv132638 ov132638 => ?_)
        obtain ⟨b132639, rfl, mb132639, gb132639⟩ := okV_r ov132638
        have gb132639 : tag b132639 = 18 := tg_of gb132639
        refine lv_iload_n hx hb dX11_stone_28 rfl (lv_at hl 1 rfl) ?_
        refine lv_iload_n hx hb dX11_stone_29 rfl (lv_at hl 2 rfl) ?_
        refine t_cVi (n := 2) (C := RX1) (T := TX1) (N := 20) (As := [.int p1, .int p2]) (rest := [.ref p0]) X hT (kt303_X1_stonePart l G tag L F hT.2.2.2 b132639 p1 p2 mb132639 gb132639) mb132639 gb132639 rfl rfl qw_857 qw_858 qw_859 qw_17 qw_860 ⟨rfl, by decide +kernel, by decide +kernel, by decide +kernel⟩ ⟨Nat.le_of_ble_eq_true rfl, Nat.le_of_ble_eq_true rfl⟩ hl rfl rfl (Nat.le_of_ble_eq_true rfl) dX11_stone_30 ⟨Nat.le_of_ble_eq_true rfl, Nat.le_of_ble_eq_true rfl⟩ (fun z132640 F9 H locs hT hz132640 => ?_)
        obtain ⟨fz132640, hz132640⟩ := hz132640
        rw [fz132640] at hT
        refine t_cVi (n := 1) (C := RX11) (T := TX11) (N := 16) (As := [.int z132640]) (rest := []) X hT (kt350_X11_answer l G tag L F hT.2.2.2 p0 z132640 m0 g0) m0 g0 rfl rfl qw_463 qw_464 qw_465 qw_2 qw_466 ⟨rfl, by decide +kernel, by decide +kernel, by decide +kernel⟩ ⟨Nat.le_of_ble_eq_true rfl, Nat.le_of_ble_eq_true rfl⟩ hl rfl rfl (Nat.le_of_ble_eq_true rfl) dX11_stone_33 ⟨Nat.le_of_ble_eq_true rfl, Nat.le_of_ble_eq_true rfl⟩ (fun z132641 F H locs hT hz132641 => ?_)
        obtain ⟨hz132641, yz132641⟩ := hz132641
        have hv132638 := (yz132641.1 _ 3 (Or.inr (by decide))).trans hv132638
        have hfr : (∀ b j : Nat, (tag b ≠ 26 ∨ j ≠ 13) → fld F b j = fld Fo b j) ∧ EF tag F Fo := ⟨fun b j n26_13 => (yz132641.1 b j n26_13).trans (hfr.1 b j n26_13), fun b j hb => (yz132641.2 b j hb).trans (hfr.2 b j hb)⟩
        exact t_iret hQ X hT (⟨rg_all _, hfr⟩) (Nat.le_of_ble_eq_true rfl) (Nat.le_of_ble_eq_true rfl) dX11_stone_36
      · have w132642 := cv_nlt (rfl : p2.toInt = p2.toInt) (by decide : (5 : Int32).toInt = 5) c132636
        exact K17  _ _ _ _  hT hfr  (lv_sub hl [0, 1, 2] rfl)
set_option maxHeartbeats 4000000 in
set_option maxRecDepth 100000 in
theorem kt416_X11_surely (l : Launch) (G : KG) (tag : Nat → Nat) (L : List Nat) (Fo : Nat → va_E) (ho : okT G ttC tag L Fo) (p0 : Nat) (p1 : Int32) (p2 : Int32) (m0 : p0 ∈ L) (g0 : tag p0 = 26) : TMi l yX11_surely cX11_surely 4 (some .int) { frames := 4, cells := 0, slots := 0, locals := 86 } G ttC tag L Fo [.ref p0, .int p1, .int p2] (fun r F1 => ((-2147483648) ≤ r.toInt ∧ r.toInt ≤ 2147483647) ∧ ((∀ b j : Nat, (tag b ≠ 22 ∨ j ≠ 2) → (tag b ≠ 26 ∨ j ≠ 13) → fld F1 b j = fld Fo b j) ∧ EF tag F1 Fo)) := by
  refine t_bodyi (y := yX11_surely) (cd := cX11_surely) (mL := 4) (rt := (some .int)) (rm := { frames := 4, cells := 0, slots := 0, locals := 86 }) (av := [.ref p0, .int p1, .int p2]) (by decide) (Nat.le_of_ble_eq_true rfl) ho ?_
  intro p e s m args below meth c ls A Q hQ X hT hl
  have hx := X.1.1
  have hb := X.1.2.1
  have hl : lv_has ls 4 [(0, .ref p0), (1, .int p1), (2, .int p2)] := hl
  have rp1 := rg_all p1
  have rp2 := rg_all p2
  obtain ⟨F, hFo⟩ : ∃ F : Nat → va_E, F = Fo := ⟨_, rfl⟩
  rw [← hFo] at hT
  have hfr : (∀ b j : Nat, (tag b ≠ 22 ∨ j ≠ 2) → (tag b ≠ 26 ∨ j ≠ 13) → fld F b j = fld Fo b j) ∧ EF tag F Fo := by
    rw [hFo]
    exact ⟨by intros; rfl, fun _ _ _ => rfl⟩
  have K21 : ∀  (F : Nat → va_E) (H : Heap) (locs : List Loc) (ls : Array Slot), TH G ttC A s tag L F H locs → ((∀ b j : Nat, (tag b ≠ 22 ∨ j ≠ 2) → (tag b ≠ 26 ∨ j ≠ 13) → fld F b j = fld Fo b j) ∧ EF tag F Fo) → lv_has ls 4 [(0, .ref p0), (1, .int p1), (2, .int p2)] → W p l e { frames := 4, cells := 0, slots := 0, locals := 86 } s m args below meth c H locs 0 0 Q (F0 m 21 ls []) := by
    intro F H locs ls hT hfr hl
    refine lv_aload_n hx hb dX11_surely_21 rfl (lv_at hl 0 rfl) ?_
    refine lv_iconst (v := 1) hx hb dX11_surely_22 (by decide) ?_
    refine t_cVi (n := 1) (C := RX11) (T := TX11) (N := 16) (As := [.int 1]) (rest := []) X hT (kt357_X11_refuse l G tag L F hT.2.2.2 p0 1 m0 g0) m0 g0 rfl rfl qw_152 qw_153 qw_154 qw_2 qw_155 ⟨rfl, by decide +kernel, by decide +kernel, by decide +kernel⟩ ⟨Nat.le_of_ble_eq_true rfl, Nat.le_of_ble_eq_true rfl⟩ hl rfl rfl (Nat.le_of_ble_eq_true rfl) dX11_surely_23 ⟨Nat.le_of_ble_eq_true rfl, Nat.le_of_ble_eq_true rfl⟩ (fun z133213 F H locs hT hz133213 => ?_)
    obtain ⟨hz133213, yz133213⟩ := hz133213
    have hfr : (∀ b j : Nat, (tag b ≠ 22 ∨ j ≠ 2) → (tag b ≠ 26 ∨ j ≠ 13) → fld F b j = fld Fo b j) ∧ EF tag F Fo := ⟨fun b j n22_2 n26_13 => (yz133213.1 b j n26_13).trans (hfr.1 b j n22_2 n26_13), fun b j hb => (yz133213.2 b j hb).trans (hfr.2 b j hb)⟩
    exact t_iret hQ X hT (⟨rg_all _, hfr⟩) (Nat.le_of_ble_eq_true rfl) (Nat.le_of_ble_eq_true rfl) dX11_surely_26
  have K88 : ∀ (z133216 : Int32) (z133217 : Int32) (b133218 : Nat) (F : Nat → va_E) (H : Heap) (locs : List Loc) (ls : Array Slot), (0 ≤ z133216.toInt ∧ z133216.toInt ≤ 1) → (0 ≤ z133217.toInt ∧ z133217.toInt ≤ 1) → (b133218 ∈ L) → (tag b133218 = 26) → (0 ≤ p1.toInt ∧ p1.toInt ≤ 5) → (0 ≤ p2.toInt ∧ p2.toInt ≤ 5) → TH G ttC A s tag L F H locs → ((∀ b j : Nat, (tag b ≠ 22 ∨ j ≠ 2) → (tag b ≠ 26 ∨ j ≠ 13) → fld F b j = fld Fo b j) ∧ EF tag F Fo) → lv_has ls 4 [(0, .ref p0), (1, .int p1), (2, .int p2), (3, .int z133216)] → W p l e { frames := 4, cells := 0, slots := 0, locals := 86 } s m args below meth c H locs 0 0 Q (F0 m 88 ls [.int z133217, .ref b133218]) := by
    intro z133216 z133217 b133218 F H locs ls rz133216 rz133217 mb133218 gb133218 r9s133214 r9s133215 hT hfr hl
    refine t_cVi (n := 1) (C := RX11) (T := TX11) (N := 16) (As := [.int z133217]) (rest := []) X hT (kt350_X11_answer l G tag L F hT.2.2.2 b133218 z133217 mb133218 gb133218) mb133218 gb133218 rfl rfl qw_463 qw_464 qw_465 qw_2 qw_466 ⟨rfl, by decide +kernel, by decide +kernel, by decide +kernel⟩ ⟨Nat.le_of_ble_eq_true rfl, Nat.le_of_ble_eq_true rfl⟩ hl rfl rfl (Nat.le_of_ble_eq_true rfl) dX11_surely_88 ⟨Nat.le_of_ble_eq_true rfl, Nat.le_of_ble_eq_true rfl⟩ (fun z133219 F H locs hT hz133219 => ?_)
    obtain ⟨hz133219, yz133219⟩ := hz133219
    have hfr : (∀ b j : Nat, (tag b ≠ 22 ∨ j ≠ 2) → (tag b ≠ 26 ∨ j ≠ 13) → fld F b j = fld Fo b j) ∧ EF tag F Fo := ⟨fun b j n22_2 n26_13 => (yz133219.1 b j n26_13).trans (hfr.1 b j n22_2 n26_13), fun b j hb => (yz133219.2 b j hb).trans (hfr.2 b j hb)⟩
    exact t_iret hQ X hT (⟨rg_all _, hfr⟩) (Nat.le_of_ble_eq_true rfl) (Nat.le_of_ble_eq_true rfl) dX11_surely_91
  have K87 : ∀ (z133222 : Int32) (b133223 : Nat) (F : Nat → va_E) (H : Heap) (locs : List Loc) (ls : Array Slot), (0 ≤ z133222.toInt ∧ z133222.toInt ≤ 1) → (b133223 ∈ L) → (tag b133223 = 26) → (0 ≤ p1.toInt ∧ p1.toInt ≤ 5) → (0 ≤ p2.toInt ∧ p2.toInt ≤ 5) → TH G ttC A s tag L F H locs → ((∀ b j : Nat, (tag b ≠ 22 ∨ j ≠ 2) → (tag b ≠ 26 ∨ j ≠ 13) → fld F b j = fld Fo b j) ∧ EF tag F Fo) → lv_has ls 4 [(0, .ref p0), (1, .int p1), (2, .int p2), (3, .int z133222)] → W p l e { frames := 4, cells := 0, slots := 0, locals := 86 } s m args below meth c H locs 0 0 Q (F0 m 87 ls [.ref b133223]) := by
    intro z133222 b133223 F H locs ls rz133222 mb133223 gb133223 r9s133220 r9s133221 hT hfr hl
    refine lv_iconst (v := 0) hx hb dX11_surely_87 (by decide) ?_
    exact K88 z133222 0 b133223 _ _ _ _ (by omega) (by decide) mb133223 gb133223 (by omega) (by omega) hT hfr  (lv_sub hl [0, 1, 2, 3] rfl)
  have K67 : ∀ (z133226 : Int32) (F : Nat → va_E) (H : Heap) (locs : List Loc) (ls : Array Slot), (0 ≤ z133226.toInt ∧ z133226.toInt ≤ 1) → (0 ≤ p1.toInt ∧ p1.toInt ≤ 5) → (0 ≤ p2.toInt ∧ p2.toInt ≤ 5) → TH G ttC A s tag L F H locs → ((∀ b j : Nat, (tag b ≠ 22 ∨ j ≠ 2) → (tag b ≠ 26 ∨ j ≠ 13) → fld F b j = fld Fo b j) ∧ EF tag F Fo) → lv_has ls 4 [(0, .ref p0), (1, .int p1), (2, .int p2)] → W p l e { frames := 4, cells := 0, slots := 0, locals := 86 } s m args below meth c H locs 0 0 Q (F0 m 67 ls [.int z133226]) := by
    intro z133226 F H locs ls rz133226 r9s133224 r9s133225 hT hfr hl
    refine lv_istore_n (lv' := [(3, .int z133226), (0, .ref p0), (1, .int p1), (2, .int p2)]) hx hb dX11_surely_67 rfl hl (by decide) rfl (fun ls hl => ?_)
    refine lv_aload_n hx hb dX11_surely_68 rfl (lv_at hl 1 rfl) ?_
    refine lv_aload_n hx hb dX11_surely_69 rfl (lv_at hl 1 rfl) ?_
    refine t_get (C := RX11) (T := TX11) (N := 16) X hT m0 g0 rfl rfl 11 (by decide) qw_41 inlX11 rfl dX11_surely_70 (fun v133227 hv133227 ov133227 => ?_)
    obtain ⟨b133228, rfl, mb133228, gb133228⟩ := okV_r ov133227
    have gb133228 : tag b133228 = 22 := tg_of gb133228
    refine t_get (C := RX9) (T := TX9) (N := 6) X hT mb133228 gb133228 rfl rfl 2 (by decide) qw_1332 inlX9 rfl dX11_surely_73 (fun v133229 hv133229 ov133229 => ?_)
    obtain ⟨z133230, rfl, rz133230⟩ := okV_i ov133229
    refine lv_if_le (tgt := 87) hx hb dX11_surely_76 (by decide) (fun c133231 => ?_) (fun c133231 => ?_)
    · have w133232 := cv_le (rfl : z133230.toInt = z133230.toInt) (by decide : (0 : Int32).toInt = 0) c133231
      exact K87 z133226 p0 _ _ _ _ (by omega) m0 g0 (by omega) (by omega) hT hfr  (lv_sub hl [1, 2, 3, 0] rfl)
    · have w133233 := cv_nle (rfl : z133230.toInt = z133230.toInt) (by decide : (0 : Int32).toInt = 0) c133231
      refine lv_iload_n hx hb dX11_surely_79 rfl (lv_at hl 0 rfl) ?_
      refine lv_if_eq (tgt := 87) hx hb dX11_surely_80 (by decide) (fun c133234 => ?_) (fun c133234 => ?_)
      · have w133235 := cv_eq (rfl : z133226.toInt = z133226.toInt) (by decide : (0 : Int32).toInt = 0) c133234
        exact K87 z133226 p0 _ _ _ _ (by omega) m0 g0 (by omega) (by omega) hT hfr  (lv_sub hl [1, 2, 3, 0] rfl)
      · have w133236 := cv_ne (rfl : z133226.toInt = z133226.toInt) (by decide : (0 : Int32).toInt = 0) c133234
        refine lv_iconst (v := 1) hx hb dX11_surely_83 (by decide) ?_
        refine lv_goto (tgt := 88) hx hb dX11_surely_84 (by decide) ?_
        exact K88 z133226 1 p0 _ _ _ _ (by omega) (by decide) m0 g0 (by omega) (by omega) hT hfr  (lv_sub hl [1, 2, 3, 0] rfl)
  refine lv_aload_n hx hb dX11_surely_0 rfl (lv_at hl 0 rfl) ?_
  refine lv_iload_n hx hb dX11_surely_1 rfl (lv_at hl 1 rfl) ?_
  refine t_cVi (n := 1) (C := RX11) (T := TX11) (N := 16) (As := [.int p1]) (rest := []) X hT (kt384_X11_isWall l G tag L F hT.2.2.2 p0 p1 m0 g0) m0 g0 rfl rfl qw_1379 qw_1380 qw_1381 qw_2 qw_1382 ⟨rfl, by decide +kernel, by decide +kernel, by decide +kernel⟩ ⟨Nat.le_of_ble_eq_true rfl, Nat.le_of_ble_eq_true rfl⟩ hl rfl rfl (Nat.le_of_ble_eq_true rfl) dX11_surely_2 ⟨Nat.le_of_ble_eq_true rfl, Nat.le_of_ble_eq_true rfl⟩ (fun z133237 F9 H locs hT hz133237 => ?_)
  obtain ⟨fz133237, hz133237⟩ := hz133237
  rw [fz133237] at hT
  obtain ⟨hz133237, iz133237⟩ := hz133237
  refine lv_if_eq (tgt := 21) hx hb dX11_surely_5 (by decide) (fun c133238 => ?_) (fun c133238 => ?_)
  · have w133239 := cv_eq (rfl : z133237.toInt = z133237.toInt) (by decide : (0 : Int32).toInt = 0) c133238
    exact K21  _ _ _ _  hT hfr  (lv_sub hl [0, 1, 2] rfl)
  · have w133240 := cv_ne (rfl : z133237.toInt = z133237.toInt) (by decide : (0 : Int32).toInt = 0) c133238
    have w133241 := (fun h => (iz133237 h)) (by omega)
    refine lv_aload_n hx hb dX11_surely_8 rfl (lv_at hl 0 rfl) ?_
    refine lv_iload_n hx hb dX11_surely_9 rfl (lv_at hl 2 rfl) ?_
    refine t_cVi (n := 1) (C := RX11) (T := TX11) (N := 16) (As := [.int p2]) (rest := []) X hT (kt384_X11_isWall l G tag L F hT.2.2.2 p0 p2 m0 g0) m0 g0 rfl rfl qw_1379 qw_1380 qw_1381 qw_2 qw_1382 ⟨rfl, by decide +kernel, by decide +kernel, by decide +kernel⟩ ⟨Nat.le_of_ble_eq_true rfl, Nat.le_of_ble_eq_true rfl⟩ hl rfl rfl (Nat.le_of_ble_eq_true rfl) dX11_surely_10 ⟨Nat.le_of_ble_eq_true rfl, Nat.le_of_ble_eq_true rfl⟩ (fun z133242 F9 H locs hT hz133242 => ?_)
    obtain ⟨fz133242, hz133242⟩ := hz133242
    rw [fz133242] at hT
    obtain ⟨hz133242, iz133242⟩ := hz133242
    refine lv_if_eq (tgt := 21) hx hb dX11_surely_13 (by decide) (fun c133243 => ?_) (fun c133243 => ?_)
    · have w133244 := cv_eq (rfl : z133242.toInt = z133242.toInt) (by decide : (0 : Int32).toInt = 0) c133243
      exact K21  _ _ _ _  hT hfr  (lv_sub hl [0, 1, 2] rfl)
    · have w133245 := cv_ne (rfl : z133242.toInt = z133242.toInt) (by decide : (0 : Int32).toInt = 0) c133243
      have w133246 := (fun h => (iz133242 h)) (by omega)
      refine lv_iload_n hx hb dX11_surely_16 rfl (lv_at hl 1 rfl) ?_
      refine lv_iload_n hx hb dX11_surely_17 rfl (lv_at hl 2 rfl) ?_
      refine lv_icmp_ne (tgt := 27) hx hb dX11_surely_18 (by decide) (fun c133247 => ?_) (fun c133247 => ?_)
      · have w133248 := cv_ne (rfl : p1.toInt = p1.toInt) (rfl : p2.toInt = p2.toInt) c133247
        refine lv_aload_n hx hb dX11_surely_27 rfl (lv_at hl 0 rfl) ?_
        refine t_get (C := RX11) (T := TX11) (N := 16) X hT m0 g0 rfl rfl 11 (by decide) qw_41 inlX11 rfl dX11_surely_28 (fun v133249 hv133249 ov133249 => ?_)
        obtain ⟨b133250, rfl, mb133250, gb133250⟩ := okV_r ov133249
        have gb133250 : tag b133250 = 22 := tg_of gb133250
        refine lv_aload_n hx hb dX11_surely_31 rfl (lv_at hl 0 rfl) ?_
        refine t_get (C := RX11) (T := TX11) (N := 16) X hT m0 g0 rfl rfl 3 (by decide) qw_18 inlX11 rfl dX11_surely_32 (fun v133251 hv133251 ov133251 => ?_)
        obtain ⟨b133252, rfl, mb133252, gb133252⟩ := okV_r ov133251
        have gb133252 : tag b133252 = 18 := tg_of gb133252
        refine lv_aload_n hx hb dX11_surely_35 rfl (lv_at hl 0 rfl) ?_
        refine t_get (C := RX11) (T := TX11) (N := 16) X hT m0 g0 rfl rfl 5 (by decide) qw_23 inlX11 rfl dX11_surely_36 (fun v133253 hv133253 ov133253 => ?_)
        obtain ⟨b133254, rfl, mb133254, gb133254⟩ := okV_r ov133253
        have gb133254 : tag b133254 = 19 := tg_of gb133254
        refine t_get (C := RX7) (T := TX7) (N := 7) X hT mb133254 gb133254 rfl rfl 0 (by decide) qw_1225 inlX7 rfl dX11_surely_39 (fun v133255 hv133255 ov133255 => ?_)
        obtain ⟨z133256, rfl, rz133256⟩ := okV_i ov133255
        refine t_cVv (n := 2) (C := RX9) (T := TX9) (N := 6) (As := [.ref b133252, .int z133256]) (rest := []) X hT (kt393_X9_lookAtAll l G tag L F hT.2.2.2 b133250 b133252 z133256 mb133250 gb133250 mb133252 gb133252) mb133250 gb133250 rfl rfl qw_1333 qw_1334 qw_1335 qw_40 qw_1336 ⟨rfl, by decide +kernel, by decide +kernel, by decide +kernel⟩ ⟨Nat.le_of_ble_eq_true rfl, Nat.le_of_ble_eq_true rfl⟩ hl rfl rfl (Nat.le_of_ble_eq_true rfl) dX11_surely_42 ⟨Nat.le_of_ble_eq_true rfl, Nat.le_of_ble_eq_true rfl⟩ (fun F H locs hT hz133257 => ?_)
        have yz133257 := hz133257
        have hv133249 := (yz133257.1 _ 11 (Or.inr (by decide))).trans hv133249
        have hv133251 := (yz133257.1 _ 3 (Or.inr (by decide))).trans hv133251
        have hv133253 := (yz133257.1 _ 5 (Or.inr (by decide))).trans hv133253
        have hv133255 := (yz133257.1 _ 0 (Or.inr (by decide))).trans hv133255
        have hfr : (∀ b j : Nat, (tag b ≠ 22 ∨ j ≠ 2) → (tag b ≠ 26 ∨ j ≠ 13) → fld F b j = fld Fo b j) ∧ EF tag F Fo := ⟨fun b j n22_2 n26_13 => (yz133257.1 b j n22_2).trans (hfr.1 b j n22_2 n26_13), fun b j hb => (yz133257.2 b j hb).trans (hfr.2 b j hb)⟩
        refine lv_aload_n hx hb dX11_surely_45 rfl (lv_at hl 0 rfl) ?_
        refine t_get (C := RX11) (T := TX11) (N := 16) X hT m0 g0 rfl rfl 11 (by decide) qw_41 inlX11 rfl dX11_surely_46 (fun v133258 hv133258 ov133258 => ?_)
        obtain rfl : v133258 = .ref b133250 := hv133258.symm.trans hv133249
        refine t_get (C := RX9) (T := TX9) (N := 6) X hT mb133250 gb133250 rfl rfl 5 (by decide) qw_1418 inlX9 rfl dX11_surely_49 (fun v133259 hv133259 ov133259 => ?_)
        obtain ⟨b133260, rfl, mb133260, gb133260⟩ := okV_r ov133259
        have gb133260 : tag b133260 = 7 := tg_of gb133260
        refine lv_iload_n hx hb dX11_surely_52 rfl (lv_at hl 2 rfl) ?_
        refine t_ild X hT mb133260 gb133260 rfl (by omega) dX11_surely_53 (fun z133261 vz133261 rz133261 => ?_)
        have rz133261 : (-2147483648) ≤ z133261.toInt ∧ z133261.toInt ≤ 2147483647 := rz133261
        refine lv_iload_n hx hb dX11_surely_54 rfl (lv_at hl 1 rfl) ?_
        refine lv_ishr hx hb dX11_surely_55 ?_
        refine lv_topi (fun z133262 ez133262 => ?_)
        have rz133262 := rg_all z133262
        refine lv_iconst (v := 1) hx hb dX11_surely_56 (by decide) ?_
        refine lv_iand hx hb dX11_surely_57 ?_
        refine lv_topi (fun z133263 ez133263 => ?_)
        have rz133263 : 0 ≤ z133263.toInt ∧ z133263.toInt ≤ 1 := ar_and ez133263 1 (by decide) (by decide)
        refine lv_iconst (v := 1) hx hb dX11_surely_58 (by decide) ?_
        refine lv_icmp_ne (tgt := 66) hx hb dX11_surely_59 (by decide) (fun c133264 => ?_) (fun c133264 => ?_)
        · have w133265 := cv_ne (rfl : z133263.toInt = z133263.toInt) (by decide : (1 : Int32).toInt = 1) c133264
          refine lv_iconst (v := 0) hx hb dX11_surely_66 (by decide) ?_
          exact K67 0 _ _ _ _ (by decide) (by omega) (by omega) hT hfr  (lv_sub hl [0, 1, 2] rfl)
        · have w133266 := cv_eq (rfl : z133263.toInt = z133263.toInt) (by decide : (1 : Int32).toInt = 1) c133264
          refine lv_iconst (v := 1) hx hb dX11_surely_62 (by decide) ?_
          refine lv_goto (tgt := 67) hx hb dX11_surely_63 (by decide) ?_
          exact K67 1 _ _ _ _ (by decide) (by omega) (by omega) hT hfr  (lv_sub hl [0, 1, 2] rfl)
      · have w133267 := cv_eq (rfl : p1.toInt = p1.toInt) (rfl : p2.toInt = p2.toInt) c133247
        exact K21  _ _ _ _  hT hfr  (lv_sub hl [0, 1, 2] rfl)
