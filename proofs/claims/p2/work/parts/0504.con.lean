set_option maxHeartbeats 4000000 in
set_option maxRecDepth 100000 in
theorem kt47_X6_isMet (l : Launch) (G : KG) (tag : Nat → Nat) (L : List Nat) (F : Nat → va_E) (ho : okT G ttC tag L F) (p0 : Nat) (p1 : Nat) (p2 : Int32) (p3 : Int32) (m0 : p0 ∈ L) (g0 : tag p0 = 18) (m1 : p1 ∈ L) (g1 : tag p1 = 19) (h2 : 0 ≤ p2.toInt ∧ p2.toInt ≤ 3) (h3 : 0 ≤ p3.toInt ∧ p3.toInt ≤ 3) : TMi l yX6_isMet cX6_isMet 7 (some .boolean) { frames := 1, cells := 0, slots := 0, locals := 13 } G ttC tag L F [.ref p0, .ref p1, .int p2, .int p3] (fun r F1 => F1 = F ∧ (0 ≤ r.toInt ∧ r.toInt ≤ 1)) := by
  refine t_bodyi (y := yX6_isMet) (cd := cX6_isMet) (mL := 7) (rt := (some .boolean)) (rm := { frames := 1, cells := 0, slots := 0, locals := 13 }) (av := [.ref p0, .ref p1, .int p2, .int p3]) (by decide) (Nat.le_of_ble_eq_true rfl) ho ?_
  intro p e s m args below meth c ls A Q hQ X hT hl
  have hx := X.1.1
  have hb := X.1.2.1
  have hl : lv_has ls 7 [(0, .ref p0), (1, .ref p1), (2, .int p2), (3, .int p3)] := hl
  refine lv_aload_n hx hb dX6_isMet_0 rfl (lv_at hl 1 rfl) ?_
  refine t_get (C := RX7) (T := TX7) (N := 7) X hT m1 g1 rfl rfl 2 (by decide) qw_383 inlX7 rfl dX6_isMet_1 (fun v11413 hv11413 ov11413 => ?_)
  obtain ⟨b11414, rfl, mb11414, gb11414⟩ := okV_r ov11413
  have gb11414 : tag b11414 = 8 := tg_of gb11414
  refine lv_iload_n hx hb dX6_isMet_4 rfl (lv_at hl 2 rfl) ?_
  refine t_ild X hT mb11414 gb11414 rfl (by omega) dX6_isMet_5 (fun z11415 vz11415 rz11415 => ?_)
  have rz11415 : 0 ≤ z11415.toInt ∧ z11415.toInt ≤ 6 := rz11415
  refine lv_aload_n hx hb dX6_isMet_6 rfl (lv_at hl 1 rfl) ?_
  refine t_get (C := RX7) (T := TX7) (N := 7) X hT m1 g1 rfl rfl 2 (by decide) qw_383 inlX7 rfl dX6_isMet_7 (fun v11416 hv11416 ov11416 => ?_)
  obtain rfl : v11416 = .ref b11414 := hv11416.symm.trans hv11413
  refine lv_iload_n hx hb dX6_isMet_10 rfl (lv_at hl 3 rfl) ?_
  refine t_ild X hT mb11414 gb11414 rfl (by omega) dX6_isMet_11 (fun z11417 vz11417 rz11417 => ?_)
  have rz11417 : 0 ≤ z11417.toInt ∧ z11417.toInt ≤ 6 := rz11417
  refine lv_iadd hx hb dX6_isMet_12 ?_
  refine lv_topi (fun z11418 ez11418 => ?_)
  have hz11418 : z11418.toInt = z11415.toInt + z11417.toInt := ar_add ez11418 (rfl : z11415.toInt = z11415.toInt) (rfl : z11417.toInt = z11417.toInt) (by omega) (by omega)
  have rz11418 : 0 ≤ z11418.toInt ∧ z11418.toInt ≤ 12 := by omega
  refine lv_istore (lv' := [(4, .int z11418), (0, .ref p0), (1, .ref p1), (2, .int p2), (3, .int p3)]) hx hb dX6_isMet_13 hl (by decide) rfl (fun ls hl => ?_)
  refine lv_aload_n hx hb dX6_isMet_15 rfl (lv_at hl 1 rfl) ?_
  refine t_get (C := RX1) (T := TX1) (N := 20) X hT m0 g0 rfl rfl 11 (by decide) qw_405 inlX1 rfl dX6_isMet_16 (fun v11419 hv11419 ov11419 => ?_)
  obtain ⟨b11420, rfl, mb11420, gb11420⟩ := okV_r ov11419
  have gb11420 : tag b11420 = 4 := tg_of gb11420
  refine lv_iload_n hx hb dX6_isMet_19 rfl (lv_at hl 3 rfl) ?_
  refine t_ild X hT mb11420 gb11420 rfl (by omega) dX6_isMet_20 (fun z11421 vz11421 rz11421 => ?_)
  have rz11421 : 0 ≤ z11421.toInt ∧ z11421.toInt ≤ 11 := rz11421
  refine lv_aload_n hx hb dX6_isMet_21 rfl (lv_at hl 1 rfl) ?_
  refine t_get (C := RX1) (T := TX1) (N := 20) X hT m0 g0 rfl rfl 11 (by decide) qw_405 inlX1 rfl dX6_isMet_22 (fun v11422 hv11422 ov11422 => ?_)
  obtain rfl : v11422 = .ref b11420 := hv11422.symm.trans hv11419
  refine lv_iload_n hx hb dX6_isMet_25 rfl (lv_at hl 4 rfl) ?_
  refine t_ild X hT mb11420 gb11420 rfl (by omega) dX6_isMet_26 (fun z11423 vz11423 rz11423 => ?_)
  have rz11423 : 0 ≤ z11423.toInt ∧ z11423.toInt ≤ 11 := rz11423
  refine lv_isub hx hb dX6_isMet_27 ?_
  refine lv_topi (fun z11424 ez11424 => ?_)
  have hz11424 : z11424.toInt = z11421.toInt - z11423.toInt := ar_sub ez11424 (rfl : z11421.toInt = z11421.toInt) (rfl : z11423.toInt = z11423.toInt) (by omega) (by omega)
  have rz11424 : (-11) ≤ z11424.toInt ∧ z11424.toInt ≤ 11 := by omega
  refine t_mabs X hl qw_1200 qw_1201 qw_850 qw_1202 (Nat.le_of_ble_eq_true rfl) (Nat.le_of_ble_eq_true rfl) (Nat.le_of_ble_eq_true rfl) (Nat.le_of_ble_eq_true rfl) dX6_isMet_28 (fun z11425 ez11425 => ?_)
  have hz11425 := mabs_e ez11425 (rfl : z11424.toInt = z11424.toInt) (by omega)
  refine lv_istore (lv' := [(5, .int z11425), (4, .int z11418), (0, .ref p0), (1, .ref p1), (2, .int p2), (3, .int p3)]) hx hb dX6_isMet_31 hl (by decide) rfl (fun ls hl => ?_)
  refine lv_aload_n hx hb dX6_isMet_33 rfl (lv_at hl 2 rfl) ?_
  refine t_get (C := RX1) (T := TX1) (N := 20) X hT m0 g0 rfl rfl 12 (by decide) qw_406 inlX1 rfl dX6_isMet_34 (fun v11426 hv11426 ov11426 => ?_)
  obtain ⟨b11427, rfl, mb11427, gb11427⟩ := okV_r ov11426
  have gb11427 : tag b11427 = 4 := tg_of gb11427
  refine lv_iload_n hx hb dX6_isMet_37 rfl (lv_at hl 4 rfl) ?_
  refine t_ild X hT mb11427 gb11427 rfl (by omega) dX6_isMet_38 (fun z11428 vz11428 rz11428 => ?_)
  have rz11428 : 0 ≤ z11428.toInt ∧ z11428.toInt ≤ 11 := rz11428
  refine lv_aload_n hx hb dX6_isMet_39 rfl (lv_at hl 2 rfl) ?_
  refine t_get (C := RX1) (T := TX1) (N := 20) X hT m0 g0 rfl rfl 12 (by decide) qw_406 inlX1 rfl dX6_isMet_40 (fun v11429 hv11429 ov11429 => ?_)
  obtain rfl : v11429 = .ref b11427 := hv11429.symm.trans hv11426
  refine lv_iload_n hx hb dX6_isMet_43 rfl (lv_at hl 5 rfl) ?_
  refine t_ild X hT mb11427 gb11427 rfl (by omega) dX6_isMet_44 (fun z11430 vz11430 rz11430 => ?_)
  have rz11430 : 0 ≤ z11430.toInt ∧ z11430.toInt ≤ 11 := rz11430
  refine lv_isub hx hb dX6_isMet_45 ?_
  refine lv_topi (fun z11431 ez11431 => ?_)
  have hz11431 : z11431.toInt = z11428.toInt - z11430.toInt := ar_sub ez11431 (rfl : z11428.toInt = z11428.toInt) (rfl : z11430.toInt = z11430.toInt) (by omega) (by omega)
  have rz11431 : (-11) ≤ z11431.toInt ∧ z11431.toInt ≤ 11 := by omega
  refine t_mabs X hl qw_1200 qw_1201 qw_850 qw_1202 (Nat.le_of_ble_eq_true rfl) (Nat.le_of_ble_eq_true rfl) (Nat.le_of_ble_eq_true rfl) (Nat.le_of_ble_eq_true rfl) dX6_isMet_46 (fun z11432 ez11432 => ?_)
  have hz11432 := mabs_e ez11432 (rfl : z11431.toInt = z11431.toInt) (by omega)
  refine lv_istore (lv' := [(6, .int z11432), (5, .int z11425), (4, .int z11418), (0, .ref p0), (1, .ref p1), (2, .int p2), (3, .int p3)]) hx hb dX6_isMet_49 hl (by decide) rfl (fun ls hl => ?_)
  refine lv_iload hx hb dX6_isMet_51 (lv_at hl 1 rfl) ?_
  refine lv_iload hx hb dX6_isMet_53 (lv_at hl 0 rfl) ?_
  refine t_mmax X hl qw_1203 qw_849 qw_850 qw_851 (Nat.le_of_ble_eq_true rfl) (Nat.le_of_ble_eq_true rfl) (Nat.le_of_ble_eq_true rfl) (Nat.le_of_ble_eq_true rfl) dX6_isMet_55 (fun z11433 ez11433 => ?_)
  have hz11433 := mmax_e ez11433 (rfl : z11425.toInt = z11425.toInt) (rfl : z11432.toInt = z11432.toInt)
  refine lv_iload hx hb dX6_isMet_58 (lv_at hl 2 rfl) ?_
  refine lv_iconst (v := 1) hx hb dX6_isMet_60 (by decide) ?_
  refine lv_iadd hx hb dX6_isMet_61 ?_
  refine lv_topi (fun z11434 ez11434 => ?_)
  have hz11434 : z11434.toInt = z11418.toInt + 1 := ar_add ez11434 (rfl : z11418.toInt = z11418.toInt) (by decide : (1 : Int32).toInt = 1) (by omega) (by omega)
  have rz11434 : 1 ≤ z11434.toInt ∧ z11434.toInt ≤ 13 := by omega
  refine lv_icmp_gt (tgt := 81) hx hb dX6_isMet_62 (by decide) (fun c11435 => ?_) (fun c11435 => ?_)
  · have w11436 := cv_lt (rfl : z11434.toInt = z11434.toInt) (rfl : z11433.toInt = z11433.toInt) c11435
    refine lv_iconst (v := 0) hx hb dX6_isMet_81 (by decide) ?_
    exact t_zret hQ X hT (by decide) (⟨rfl, (by decide)⟩) (Nat.le_of_ble_eq_true rfl) (Nat.le_of_ble_eq_true rfl) dX6_isMet_82
  · have w11437 := cv_nlt (rfl : z11434.toInt = z11434.toInt) (rfl : z11433.toInt = z11433.toInt) c11435
    refine lv_iload hx hb dX6_isMet_65 (lv_at hl 1 rfl) ?_
    refine lv_iload hx hb dX6_isMet_67 (lv_at hl 0 rfl) ?_
    refine t_mmin X hl qw_1204 qw_1018 qw_850 qw_1019 (Nat.le_of_ble_eq_true rfl) (Nat.le_of_ble_eq_true rfl) (Nat.le_of_ble_eq_true rfl) (Nat.le_of_ble_eq_true rfl) dX6_isMet_69 (fun z11438 ez11438 => ?_)
    have hz11438 := mmin_e ez11438 (rfl : z11425.toInt = z11425.toInt) (rfl : z11432.toInt = z11432.toInt)
    refine lv_iload hx hb dX6_isMet_72 (lv_at hl 2 rfl) ?_
    refine lv_icmp_gt (tgt := 81) hx hb dX6_isMet_74 (by decide) (fun c11439 => ?_) (fun c11439 => ?_)
    · have w11440 := cv_lt (rfl : z11418.toInt = z11418.toInt) (rfl : z11438.toInt = z11438.toInt) c11439
      refine lv_iconst (v := 0) hx hb dX6_isMet_81 (by decide) ?_
      exact t_zret hQ X hT (by decide) (⟨rfl, (by decide)⟩) (Nat.le_of_ble_eq_true rfl) (Nat.le_of_ble_eq_true rfl) dX6_isMet_82
    · have w11441 := cv_nlt (rfl : z11418.toInt = z11418.toInt) (rfl : z11438.toInt = z11438.toInt) c11439
      refine lv_iconst (v := 1) hx hb dX6_isMet_77 (by decide) ?_
      refine lv_goto (tgt := 82) hx hb dX6_isMet_78 (by decide) ?_
      exact t_zret hQ X hT (by decide) (⟨rfl, (by decide)⟩) (Nat.le_of_ble_eq_true rfl) (Nat.le_of_ble_eq_true rfl) dX6_isMet_82
set_option maxHeartbeats 4000000 in
set_option maxRecDepth 100000 in
theorem kt48_X1_stonePart (l : Launch) (G : KG) (tag : Nat → Nat) (L : List Nat) (F : Nat → va_E) (ho : okT G ttC tag L F) (p0 : Nat) (p1 : Int32) (p2 : Int32) (m0 : p0 ∈ L) (g0 : tag p0 = 18) : TMi l yX1_stonePart cX1_stonePart 4 (some .int) { frames := 0, cells := 0, slots := 0, locals := 0 } G ttC tag L F [.ref p0, .int p1, .int p2] (fun r F1 => F1 = F ∧ ((-2147483648) ≤ r.toInt ∧ r.toInt ≤ 2147483647)) := by
  refine t_bodyi (y := yX1_stonePart) (cd := cX1_stonePart) (mL := 4) (rt := (some .int)) (rm := { frames := 0, cells := 0, slots := 0, locals := 0 }) (av := [.ref p0, .int p1, .int p2]) (by decide) (Nat.le_of_ble_eq_true rfl) ho ?_
  intro p e s m args below meth c ls A Q hQ X hT hl
  have hx := X.1.1
  have hb := X.1.2.1
  have hl : lv_has ls 4 [(0, .ref p0), (1, .int p1), (2, .int p2)] := hl
  have rp1 := rg_all p1
  have rp2 := rg_all p2
  refine lv_iload_n hx hb dX1_stonePart_0 rfl (lv_at hl 1 rfl) ?_
  refine lv_iconst (v := 5) hx hb dX1_stonePart_1 (by decide) ?_
  refine lv_imul hx hb dX1_stonePart_2 ?_
  refine lv_topi (fun z11585 ez11585 => ?_)
  have rz11585 := rg_all z11585
  refine lv_iload_n hx hb dX1_stonePart_3 rfl (lv_at hl 2 rfl) ?_
  refine lv_iadd hx hb dX1_stonePart_4 ?_
  refine lv_topi (fun z11586 ez11586 => ?_)
  have rz11586 := rg_all z11586
  refine lv_istore_n (lv' := [(3, .int z11586), (0, .ref p0), (1, .int p1), (2, .int p2)]) hx hb dX1_stonePart_5 rfl hl (by decide) rfl (fun ls hl => ?_)
  refine lv_iload_n hx hb dX1_stonePart_6 rfl (lv_at hl 0 rfl) ?_
  refine lv_if_lt (tgt := 28) hx hb dX1_stonePart_7 (by decide) (fun c11587 => ?_) (fun c11587 => ?_)
  · have w11588 := cv_lt (rfl : z11586.toInt = z11586.toInt) (by decide : (0 : Int32).toInt = 0) c11587
    refine lv_iconst (v := 0) hx hb dX1_stonePart_28 (by decide) ?_
    exact t_iret hQ X hT (⟨rfl, rg_all _⟩) (Nat.le_of_ble_eq_true rfl) (Nat.le_of_ble_eq_true rfl) dX1_stonePart_29
  · have w11589 := cv_nlt (rfl : z11586.toInt = z11586.toInt) (by decide : (0 : Int32).toInt = 0) c11587
    refine lv_iload_n hx hb dX1_stonePart_10 rfl (lv_at hl 0 rfl) ?_
    refine lv_aload_n hx hb dX1_stonePart_11 rfl (lv_at hl 1 rfl) ?_
    refine t_get (C := RX1) (T := TX1) (N := 20) X hT m0 g0 rfl rfl 9 (by decide) qw_51 inlX1 rfl dX1_stonePart_12 (fun v11590 hv11590 ov11590 => ?_)
    obtain ⟨b11591, rfl, mb11591, gb11591⟩ := okV_r ov11590
    have gb11591 : tag b11591 = 3 := tg_of gb11591
    refine t_alen X hT mb11591 gb11591 rfl (by decide) dX1_stonePart_15 ?_
    refine lv_topi (fun z11592 ez11592 => ?_)
    obtain rfl : z11592 = 20 := ez11592.trans (by rfl)
    refine lv_icmp_ge (tgt := 28) hx hb dX1_stonePart_16 (by decide) (fun c11593 => ?_) (fun c11593 => ?_)
    · have w11594 := cv_le (by decide : (20 : Int32).toInt = 20) (rfl : z11586.toInt = z11586.toInt) c11593
      refine lv_iconst (v := 0) hx hb dX1_stonePart_28 (by decide) ?_
      exact t_iret hQ X hT (⟨rfl, rg_all _⟩) (Nat.le_of_ble_eq_true rfl) (Nat.le_of_ble_eq_true rfl) dX1_stonePart_29
    · have w11595 := cv_nle (by decide : (20 : Int32).toInt = 20) (rfl : z11586.toInt = z11586.toInt) c11593
      refine lv_aload_n hx hb dX1_stonePart_19 rfl (lv_at hl 1 rfl) ?_
      refine t_get (C := RX1) (T := TX1) (N := 20) X hT m0 g0 rfl rfl 9 (by decide) qw_51 inlX1 rfl dX1_stonePart_20 (fun v11596 hv11596 ov11596 => ?_)
      obtain rfl : v11596 = .ref b11591 := hv11596.symm.trans hv11590
      refine lv_iload_n hx hb dX1_stonePart_23 rfl (lv_at hl 0 rfl) ?_
      refine t_ild X hT mb11591 gb11591 rfl (by omega) dX1_stonePart_24 (fun z11597 vz11597 rz11597 => ?_)
      have rz11597 : (-2147483648) ≤ z11597.toInt ∧ z11597.toInt ≤ 2147483647 := rz11597
      refine lv_goto (tgt := 29) hx hb dX1_stonePart_25 (by decide) ?_
      exact t_iret hQ X hT (⟨rfl, rg_all _⟩) (Nat.le_of_ble_eq_true rfl) (Nat.le_of_ble_eq_true rfl) dX1_stonePart_29
set_option maxHeartbeats 4000000 in
set_option maxRecDepth 100000 in
theorem kt49_X6_priceOf (l : Launch) (G : KG) (tag : Nat → Nat) (L : List Nat) (F : Nat → va_E) (ho : okT G ttC tag L F) (p0 : Nat) (p1 : Nat) (p2 : Int32) (p3 : Int32) (m0 : p0 ∈ L) (g0 : tag p0 = 18) (m1 : p1 ∈ L) (g1 : tag p1 = 19) (h2 : 0 ≤ p2.toInt ∧ p2.toInt ≤ 3) : TMi l yX6_priceOf cX6_priceOf 4 (some .int) { frames := 1, cells := 0, slots := 0, locals := 23 } G ttC tag L F [.ref p0, .ref p1, .int p2, .int p3] (fun r F1 => F1 = F ∧ ((-2147483648) ≤ r.toInt ∧ r.toInt ≤ 2147483647)) := by
  refine t_bodyi (y := yX6_priceOf) (cd := cX6_priceOf) (mL := 4) (rt := (some .int)) (rm := { frames := 1, cells := 0, slots := 0, locals := 23 }) (av := [.ref p0, .ref p1, .int p2, .int p3]) (by decide) (Nat.le_of_ble_eq_true rfl) ho ?_
  intro p e s m args below meth c ls A Q hQ X hT hl
  have hx := X.1.1
  have hb := X.1.2.1
  have hl : lv_has ls 4 [(0, .ref p0), (1, .ref p1), (2, .int p2), (3, .int p3)] := hl
  have rp3 := rg_all p3
  refine lv_aload_n hx hb dX6_priceOf_0 rfl (lv_at hl 0 rfl) ?_
  refine lv_iload_n hx hb dX6_priceOf_1 rfl (lv_at hl 3 rfl) ?_
  refine lv_iconst (v := 1) hx hb dX6_priceOf_2 (by decide) ?_
  refine t_cVi (n := 2) (C := RX1) (T := TX1) (N := 20) (As := [.int p3, .int 1]) (rest := []) X hT (kt48_X1_stonePart l G tag L F hT.2.2.2 p0 p3 1 m0 g0) m0 g0 rfl rfl qw_962 qw_858 qw_859 qw_17 qw_860 ⟨rfl, by decide +kernel, by decide +kernel, by decide +kernel⟩ ⟨Nat.le_of_ble_eq_true rfl, Nat.le_of_ble_eq_true rfl⟩ hl rfl rfl (Nat.le_of_ble_eq_true rfl) dX6_priceOf_3 ⟨Nat.le_of_ble_eq_true rfl, Nat.le_of_ble_eq_true rfl⟩ (fun z11675 F9 H locs hT hz11675 => ?_)
  obtain ⟨fz11675, hz11675⟩ := hz11675
  rw [fz11675] at hT
  refine lv_bipush (v := 8) hx hb dX6_priceOf_6 (by decide) ?_
  refine lv_imul hx hb dX6_priceOf_8 ?_
  refine lv_topi (fun z11676 ez11676 => ?_)
  have rz11676 := rg_all z11676
  refine lv_aload_n hx hb dX6_priceOf_9 rfl (lv_at hl 1 rfl) ?_
  refine t_get (C := RX7) (T := TX7) (N := 7) X hT m1 g1 rfl rfl 2 (by decide) qw_383 inlX7 rfl dX6_priceOf_10 (fun v11677 hv11677 ov11677 => ?_)
  obtain ⟨b11678, rfl, mb11678, gb11678⟩ := okV_r ov11677
  have gb11678 : tag b11678 = 8 := tg_of gb11678
  refine lv_iload_n hx hb dX6_priceOf_13 rfl (lv_at hl 2 rfl) ?_
  refine t_ild X hT mb11678 gb11678 rfl (by omega) dX6_priceOf_14 (fun z11679 vz11679 rz11679 => ?_)
  have rz11679 : 0 ≤ z11679.toInt ∧ z11679.toInt ≤ 6 := rz11679
  refine lv_iconst (v := 1) hx hb dX6_priceOf_15 (by decide) ?_
  refine lv_iadd hx hb dX6_priceOf_16 ?_
  refine lv_topi (fun z11680 ez11680 => ?_)
  have hz11680 : z11680.toInt = z11679.toInt + 1 := ar_add ez11680 (rfl : z11679.toInt = z11679.toInt) (by decide : (1 : Int32).toInt = 1) (by omega) (by omega)
  have rz11680 : 1 ≤ z11680.toInt ∧ z11680.toInt ≤ 7 := by omega
  refine lv_imul hx hb dX6_priceOf_17 ?_
  refine lv_topi (fun z11681 ez11681 => ?_)
  have rz11681 := rg_all z11681
  exact t_iret hQ X hT (⟨rfl, rg_all _⟩) (Nat.le_of_ble_eq_true rfl) (Nat.le_of_ble_eq_true rfl) dX6_priceOf_18
set_option maxHeartbeats 4000000 in
set_option maxRecDepth 100000 in
theorem kt50_X0_byDoor (l : Launch) (G : KG) (tag : Nat → Nat) (L : List Nat) (F : Nat → va_E) (ho : okT G ttC tag L F) (p0 : Nat) (p1 : Int32) (p2 : Int32) (m0 : p0 ∈ L) (g0 : tag p0 = 19) : TMi l yX0_byDoor cX0_byDoor 3 (some .int) { frames := 3, cells := 0, slots := 0, locals := 68 } G ttC tag L F [.ref p0, .int p1, .int p2] (fun r F1 => F1 = F ∧ ((-2147483648) ≤ r.toInt ∧ r.toInt ≤ 2147483647)) := by
  refine t_bodyi (y := yX0_byDoor) (cd := cX0_byDoor) (mL := 3) (rt := (some .int)) (rm := { frames := 3, cells := 0, slots := 0, locals := 68 }) (av := [.ref p0, .int p1, .int p2]) (by decide) (Nat.le_of_ble_eq_true rfl) ho ?_
  intro p e s m args below meth c ls A Q hQ X hT hl
  have hx := X.1.1
  have hb := X.1.2.1
  have hl : lv_has ls 3 [(0, .ref p0), (1, .int p1), (2, .int p2)] := hl
  have rp1 := rg_all p1
  have rp2 := rg_all p2
  refine lv_aload_n hx hb dX0_byDoor_0 rfl (lv_at hl 0 rfl) ?_
  refine lv_iload_n hx hb dX0_byDoor_1 rfl (lv_at hl 1 rfl) ?_
  refine lv_iload_n hx hb dX0_byDoor_2 rfl (lv_at hl 2 rfl) ?_
  refine t_cVi (n := 2) (C := RX7) (T := TX7) (N := 7) (As := [.int p1, .int p2]) (rest := []) X hT (kt21_X7_stands l G tag L F hT.2.2.2 p0 p1 p2 m0 g0) m0 g0 rfl rfl qw_1028 qw_853 qw_854 qw_22 qw_855 ⟨rfl, by decide +kernel, by decide +kernel, by decide +kernel⟩ ⟨Nat.le_of_ble_eq_true rfl, Nat.le_of_ble_eq_true rfl⟩ hl rfl rfl (Nat.le_of_ble_eq_true rfl) dX0_byDoor_3 ⟨Nat.le_of_ble_eq_true rfl, Nat.le_of_ble_eq_true rfl⟩ (fun z11803 F9 H locs hT hz11803 => ?_)
  obtain ⟨fz11803, hz11803⟩ := hz11803
  rw [fz11803] at hT
  refine lv_if_ne (tgt := 12) hx hb dX0_byDoor_6 (by decide) (fun c11804 => ?_) (fun c11804 => ?_)
  · have w11805 := cv_ne (rfl : z11803.toInt = z11803.toInt) (by decide : (0 : Int32).toInt = 0) c11804
    refine lv_aload_n hx hb dX0_byDoor_12 rfl (lv_at hl 0 rfl) ?_
    refine lv_iload_n hx hb dX0_byDoor_13 rfl (lv_at hl 1 rfl) ?_
    refine lv_iload_n hx hb dX0_byDoor_14 rfl (lv_at hl 2 rfl) ?_
    refine t_cVi (n := 2) (C := RX7) (T := TX7) (N := 7) (As := [.int p1, .int p2]) (rest := []) X hT (kt33_X7_isOpen l G tag L F hT.2.2.2 p0 p1 p2 m0 g0) m0 g0 rfl rfl qw_1029 qw_984 qw_985 qw_22 qw_986 ⟨rfl, by decide +kernel, by decide +kernel, by decide +kernel⟩ ⟨Nat.le_of_ble_eq_true rfl, Nat.le_of_ble_eq_true rfl⟩ hl rfl rfl (Nat.le_of_ble_eq_true rfl) dX0_byDoor_15 ⟨Nat.le_of_ble_eq_true rfl, Nat.le_of_ble_eq_true rfl⟩ (fun z11806 F9 H locs hT hz11806 => ?_)
    obtain ⟨fz11806, hz11806⟩ := hz11806
    rw [fz11806] at hT
    refine lv_if_ne (tgt := 25) hx hb dX0_byDoor_18 (by decide) (fun c11807 => ?_) (fun c11807 => ?_)
    · have w11808 := cv_ne (rfl : z11806.toInt = z11806.toInt) (by decide : (0 : Int32).toInt = 0) c11807
      refine lv_aload_n hx hb dX0_byDoor_25 rfl (lv_at hl 0 rfl) ?_
      refine lv_iload_n hx hb dX0_byDoor_26 rfl (lv_at hl 1 rfl) ?_
      refine lv_iload_n hx hb dX0_byDoor_27 rfl (lv_at hl 2 rfl) ?_
      refine lv_iconst (v := 3) hx hb dX0_byDoor_28 (by decide) ?_
      refine t_cVi (n := 3) (C := RX7) (T := TX7) (N := 7) (As := [.int p1, .int p2, .int 3]) (rest := []) X hT (kt19_X7_partOf l G tag L F hT.2.2.2 p0 p1 p2 3 m0 g0) m0 g0 rfl rfl qw_1030 qw_778 qw_779 qw_22 qw_780 ⟨rfl, by decide +kernel, by decide +kernel, by decide +kernel⟩ ⟨Nat.le_of_ble_eq_true rfl, Nat.le_of_ble_eq_true rfl⟩ hl rfl rfl (Nat.le_of_ble_eq_true rfl) dX0_byDoor_29 ⟨Nat.le_of_ble_eq_true rfl, Nat.le_of_ble_eq_true rfl⟩ (fun z11809 F9 H locs hT hz11809 => ?_)
      obtain ⟨fz11809, hz11809⟩ := hz11809
      rw [fz11809] at hT
      refine lv_iconst (v := 1) hx hb dX0_byDoor_32 (by decide) ?_
      refine lv_iadd hx hb dX0_byDoor_33 ?_
      refine lv_topi (fun z11810 ez11810 => ?_)
      have rz11810 := rg_all z11810
      refine lv_bipush (v := 8) hx hb dX0_byDoor_34 (by decide) ?_
      refine lv_imul hx hb dX0_byDoor_36 ?_
      refine lv_topi (fun z11811 ez11811 => ?_)
      have rz11811 := rg_all z11811
      exact t_iret hQ X hT (⟨rfl, rg_all _⟩) (Nat.le_of_ble_eq_true rfl) (Nat.le_of_ble_eq_true rfl) dX0_byDoor_37
    · have w11812 := cv_eq (rfl : z11806.toInt = z11806.toInt) (by decide : (0 : Int32).toInt = 0) c11807
      refine lv_sipush (v := 160) hx hb dX0_byDoor_21 (by decide) ?_
      exact t_iret hQ X hT (⟨rfl, rg_all _⟩) (Nat.le_of_ble_eq_true rfl) (Nat.le_of_ble_eq_true rfl) dX0_byDoor_24
  · have w11813 := cv_eq (rfl : z11803.toInt = z11803.toInt) (by decide : (0 : Int32).toInt = 0) c11804
    refine lv_bipush (v := 8) hx hb dX0_byDoor_9 (by decide) ?_
    exact t_iret hQ X hT (⟨rfl, rg_all _⟩) (Nat.le_of_ble_eq_true rfl) (Nat.le_of_ble_eq_true rfl) dX0_byDoor_11
set_option maxHeartbeats 4000000 in
set_option maxRecDepth 100000 in
theorem kt51_X0_byWall (l : Launch) (G : KG) (tag : Nat → Nat) (L : List Nat) (F : Nat → va_E) (ho : okT G ttC tag L F) (p0 : Nat) (p1 : Nat) (p2 : Int32) (p3 : Int32) (m0 : p0 ∈ L) (g0 : tag p0 = 18) (m1 : p1 ∈ L) (g1 : tag p1 = 19) : TMi l yX0_byWall cX0_byWall 5 (some .int) { frames := 3, cells := 0, slots := 0, locals := 68 } G ttC tag L F [.ref p0, .ref p1, .int p2, .int p3] (fun r F1 => F1 = F ∧ ((-2147483648) ≤ r.toInt ∧ r.toInt ≤ 2147483647)) := by
  refine t_bodyi (y := yX0_byWall) (cd := cX0_byWall) (mL := 5) (rt := (some .int)) (rm := { frames := 3, cells := 0, slots := 0, locals := 68 }) (av := [.ref p0, .ref p1, .int p2, .int p3]) (by decide) (Nat.le_of_ble_eq_true rfl) ho ?_
  intro p e s m args below meth c ls A Q hQ X hT hl
  have hx := X.1.1
  have hb := X.1.2.1
  have hl : lv_has ls 5 [(0, .ref p0), (1, .ref p1), (2, .int p2), (3, .int p3)] := hl
  have rp2 := rg_all p2
  have rp3 := rg_all p3
  refine lv_aload_n hx hb dX0_byWall_0 rfl (lv_at hl 1 rfl) ?_
  refine lv_iload_n hx hb dX0_byWall_1 rfl (lv_at hl 2 rfl) ?_
  refine lv_iload_n hx hb dX0_byWall_2 rfl (lv_at hl 3 rfl) ?_
  refine t_cVi (n := 2) (C := RX7) (T := TX7) (N := 7) (As := [.int p2, .int p3]) (rest := []) X hT (kt21_X7_stands l G tag L F hT.2.2.2 p1 p2 p3 m1 g1) m1 g1 rfl rfl qw_1028 qw_853 qw_854 qw_22 qw_855 ⟨rfl, by decide +kernel, by decide +kernel, by decide +kernel⟩ ⟨Nat.le_of_ble_eq_true rfl, Nat.le_of_ble_eq_true rfl⟩ hl rfl rfl (Nat.le_of_ble_eq_true rfl) dX0_byWall_3 ⟨Nat.le_of_ble_eq_true rfl, Nat.le_of_ble_eq_true rfl⟩ (fun z11979 F9 H locs hT hz11979 => ?_)
  obtain ⟨fz11979, hz11979⟩ := hz11979
  rw [fz11979] at hT
  refine lv_if_ne (tgt := 12) hx hb dX0_byWall_6 (by decide) (fun c11980 => ?_) (fun c11980 => ?_)
  · have w11981 := cv_ne (rfl : z11979.toInt = z11979.toInt) (by decide : (0 : Int32).toInt = 0) c11980
    refine lv_aload_n hx hb dX0_byWall_12 rfl (lv_at hl 1 rfl) ?_
    refine lv_iload_n hx hb dX0_byWall_13 rfl (lv_at hl 2 rfl) ?_
    refine lv_iload_n hx hb dX0_byWall_14 rfl (lv_at hl 3 rfl) ?_
    refine t_cVi (n := 2) (C := RX7) (T := TX7) (N := 7) (As := [.int p2, .int p3]) (rest := []) X hT (kt33_X7_isOpen l G tag L F hT.2.2.2 p1 p2 p3 m1 g1) m1 g1 rfl rfl qw_1029 qw_984 qw_985 qw_22 qw_986 ⟨rfl, by decide +kernel, by decide +kernel, by decide +kernel⟩ ⟨Nat.le_of_ble_eq_true rfl, Nat.le_of_ble_eq_true rfl⟩ hl rfl rfl (Nat.le_of_ble_eq_true rfl) dX0_byWall_15 ⟨Nat.le_of_ble_eq_true rfl, Nat.le_of_ble_eq_true rfl⟩ (fun z11982 F9 H locs hT hz11982 => ?_)
    obtain ⟨fz11982, hz11982⟩ := hz11982
    rw [fz11982] at hT
    refine lv_if_ne (tgt := 25) hx hb dX0_byWall_18 (by decide) (fun c11983 => ?_) (fun c11983 => ?_)
    · have w11984 := cv_ne (rfl : z11982.toInt = z11982.toInt) (by decide : (0 : Int32).toInt = 0) c11983
      refine lv_aload_n hx hb dX0_byWall_25 rfl (lv_at hl 0 rfl) ?_
      refine lv_aload_n hx hb dX0_byWall_26 rfl (lv_at hl 1 rfl) ?_
      refine lv_iload_n hx hb dX0_byWall_27 rfl (lv_at hl 2 rfl) ?_
      refine lv_iload_n hx hb dX0_byWall_28 rfl (lv_at hl 3 rfl) ?_
      refine lv_iconst (v := 0) hx hb dX0_byWall_29 (by decide) ?_
      refine t_cVi (n := 3) (C := RX7) (T := TX7) (N := 7) (As := [.int p2, .int p3, .int 0]) (rest := [.ref p0]) X hT (kt19_X7_partOf l G tag L F hT.2.2.2 p1 p2 p3 0 m1 g1) m1 g1 rfl rfl qw_1030 qw_778 qw_779 qw_22 qw_780 ⟨rfl, by decide +kernel, by decide +kernel, by decide +kernel⟩ ⟨Nat.le_of_ble_eq_true rfl, Nat.le_of_ble_eq_true rfl⟩ hl rfl rfl (Nat.le_of_ble_eq_true rfl) dX0_byWall_30 ⟨Nat.le_of_ble_eq_true rfl, Nat.le_of_ble_eq_true rfl⟩ (fun z11985 F9 H locs hT hz11985 => ?_)
      obtain ⟨fz11985, hz11985⟩ := hz11985
      rw [fz11985] at hT
      refine lv_iconst (v := 4) hx hb dX0_byWall_33 (by decide) ?_
      refine t_cVi (n := 2) (C := RX1) (T := TX1) (N := 20) (As := [.int z11985, .int 4]) (rest := []) X hT (kt48_X1_stonePart l G tag L F hT.2.2.2 p0 z11985 4 m0 g0) m0 g0 rfl rfl qw_1035 qw_858 qw_859 qw_17 qw_860 ⟨rfl, by decide +kernel, by decide +kernel, by decide +kernel⟩ ⟨Nat.le_of_ble_eq_true rfl, Nat.le_of_ble_eq_true rfl⟩ hl rfl rfl (Nat.le_of_ble_eq_true rfl) dX0_byWall_34 ⟨Nat.le_of_ble_eq_true rfl, Nat.le_of_ble_eq_true rfl⟩ (fun z11986 F9 H locs hT hz11986 => ?_)
      obtain ⟨fz11986, hz11986⟩ := hz11986
      rw [fz11986] at hT
      refine lv_istore (lv' := [(4, .int z11986), (0, .ref p0), (1, .ref p1), (2, .int p2), (3, .int p3)]) hx hb dX0_byWall_37 hl (by decide) rfl (fun ls hl => ?_)
      refine lv_iconst (v := 1) hx hb dX0_byWall_39 (by decide) ?_
      refine lv_iload hx hb dX0_byWall_40 (lv_at hl 0 rfl) ?_
      refine lv_aload_n hx hb dX0_byWall_42 rfl (lv_at hl 2 rfl) ?_
      refine lv_iload_n hx hb dX0_byWall_43 rfl (lv_at hl 3 rfl) ?_
      refine lv_iload_n hx hb dX0_byWall_44 rfl (lv_at hl 4 rfl) ?_
      refine lv_iconst (v := 4) hx hb dX0_byWall_45 (by decide) ?_
      refine t_cVi (n := 3) (C := RX7) (T := TX7) (N := 7) (As := [.int p2, .int p3, .int 4]) (rest := [.int z11986, .int 1]) X hT (kt19_X7_partOf l G tag L F hT.2.2.2 p1 p2 p3 4 m1 g1) m1 g1 rfl rfl qw_1030 qw_778 qw_779 qw_22 qw_780 ⟨rfl, by decide +kernel, by decide +kernel, by decide +kernel⟩ ⟨Nat.le_of_ble_eq_true rfl, Nat.le_of_ble_eq_true rfl⟩ hl rfl rfl (Nat.le_of_ble_eq_true rfl) dX0_byWall_46 ⟨Nat.le_of_ble_eq_true rfl, Nat.le_of_ble_eq_true rfl⟩ (fun z11987 F9 H locs hT hz11987 => ?_)
      obtain ⟨fz11987, hz11987⟩ := hz11987
      rw [fz11987] at hT
      refine lv_isub hx hb dX0_byWall_49 ?_
      refine lv_topi (fun z11988 ez11988 => ?_)
      have rz11988 := rg_all z11988
      refine t_mmax X hl qw_1034 qw_849 qw_850 qw_851 (Nat.le_of_ble_eq_true rfl) (Nat.le_of_ble_eq_true rfl) (Nat.le_of_ble_eq_true rfl) (Nat.le_of_ble_eq_true rfl) dX0_byWall_50 (fun z11989 ez11989 => ?_)
      have hz11989 := mmax_e ez11989 (by decide : (1 : Int32).toInt = 1) (rfl : z11988.toInt = z11988.toInt)
      refine lv_bipush (v := 8) hx hb dX0_byWall_53 (by decide) ?_
      refine lv_imul hx hb dX0_byWall_55 ?_
      refine lv_topi (fun z11990 ez11990 => ?_)
      have rz11990 := rg_all z11990
      refine lv_iconst (v := 1) hx hb dX0_byWall_56 (by decide) ?_
      refine lv_iadd hx hb dX0_byWall_57 ?_
      refine lv_topi (fun z11991 ez11991 => ?_)
      have rz11991 := rg_all z11991
      exact t_iret hQ X hT (⟨rfl, rg_all _⟩) (Nat.le_of_ble_eq_true rfl) (Nat.le_of_ble_eq_true rfl) dX0_byWall_58
    · have w11992 := cv_eq (rfl : z11982.toInt = z11982.toInt) (by decide : (0 : Int32).toInt = 0) c11983
      refine lv_sipush (v := 161) hx hb dX0_byWall_21 (by decide) ?_
      exact t_iret hQ X hT (⟨rfl, rg_all _⟩) (Nat.le_of_ble_eq_true rfl) (Nat.le_of_ble_eq_true rfl) dX0_byWall_24
  · have w11993 := cv_eq (rfl : z11979.toInt = z11979.toInt) (by decide : (0 : Int32).toInt = 0) c11980
    refine lv_bipush (v := 9) hx hb dX0_byWall_9 (by decide) ?_
    exact t_iret hQ X hT (⟨rfl, rg_all _⟩) (Nat.le_of_ble_eq_true rfl) (Nat.le_of_ble_eq_true rfl) dX0_byWall_11
set_option maxHeartbeats 4000000 in
set_option maxRecDepth 100000 in
theorem kt52_X0_empty (l : Launch) (G : KG) (tag : Nat → Nat) (L : List Nat) (Fo : Nat → va_E) (ho : okT G ttC tag L Fo) (p0 : Nat) (m0 : p0 ∈ L) (g0 : tag p0 = 12) : TMv l yX0_empty cX0_empty 2 { frames := 0, cells := 0, slots := 0, locals := 0 } G ttC tag L Fo [.ref p0] (fun F1 => ∀ b j : Nat, fld F1 b j = fld Fo b j) := by
  refine t_bodyv (y := yX0_empty) (cd := cX0_empty) (mL := 2) (rm := { frames := 0, cells := 0, slots := 0, locals := 0 }) (av := [.ref p0]) (by decide) (Nat.le_of_ble_eq_true rfl) ho ?_
  intro p e s m args below meth c ls A Q hQ X hT hl
  have hx := X.1.1
  have hb := X.1.2.1
  have hl : lv_has ls 2 [(0, .ref p0)] := hl
  obtain ⟨F, hFo⟩ : ∃ F : Nat → va_E, F = Fo := ⟨_, rfl⟩
  rw [← hFo] at hT
  have hfr : ∀ b j : Nat, fld F b j = fld Fo b j := by
    rw [hFo]
    intros
    rfl
  have K2 : ∀ (n : Nat) (z12183 : Int32) (F : Nat → va_E) (H : Heap) (locs : List Loc) (ls : Array Slot), (48 - z12183.toInt < (n : Int)) → (0 ≤ z12183.toInt ∧ z12183.toInt ≤ 48) → TH G ttC A s tag L F H locs → (∀ b j : Nat, fld F b j = fld Fo b j) → lv_has ls 2 [(0, .ref p0), (1, .int z12183)] → W p l e { frames := 0, cells := 0, slots := 0, locals := 0 } s m args below meth c H locs 0 0 Q (F0 m 2 ls []) := by
    intro n
    induction n with
    | zero =>
      intro z12183 F H locs ls hn rz12183 hT hfr hl
      exfalso
      omega
    | succ n ih2 =>
      intro z12183 F H locs ls hn rz12183 hT hfr hl
      refine lv_iload_n hx hb dX0_empty_2 rfl (lv_at hl 1 rfl) ?_
      refine lv_aload_n hx hb dX0_empty_3 rfl (lv_at hl 0 rfl) ?_
      refine t_alen X hT m0 g0 rfl (by decide) dX0_empty_4 ?_
      refine lv_topi (fun z12184 ez12184 => ?_)
      obtain rfl : z12184 = 48 := ez12184.trans (by rfl)
      refine lv_icmp_ge (tgt := 19) hx hb dX0_empty_5 (by decide) (fun c12185 => ?_) (fun c12185 => ?_)
      · have w12186 := cv_le (by decide : (48 : Int32).toInt = 48) (rfl : z12183.toInt = z12183.toInt) c12185
        exact t_vret hQ X hT hfr (Nat.le_of_ble_eq_true rfl) (Nat.le_of_ble_eq_true rfl) dX0_empty_19
      · have w12187 := cv_nle (by decide : (48 : Int32).toInt = 48) (rfl : z12183.toInt = z12183.toInt) c12185
        refine lv_aload_n hx hb dX0_empty_8 rfl (lv_at hl 0 rfl) ?_
        refine lv_iload_n hx hb dX0_empty_9 rfl (lv_at hl 1 rfl) ?_
        refine m_ldc X qw_1023 dX0_empty_10 ?_
        refine t_ist X hT m0 g0 rfl (by omega) (show (-2147483648) ≤ (1000000 : Int32).toInt ∧ (1000000 : Int32).toInt ≤ 2147483647 from (by decide)) dX0_empty_12 (fun F H locs hT v12188 h1v12188 h2v12188 => ?_)
        have hfr : ∀ b j : Nat, fld F b j = fld Fo b j := fun b j  => (h2v12188 b j).trans (hfr b j )
        obtain ⟨z12189, ez12189⟩ : ∃ y : Int32, y = z12183 + 1 := ⟨_, rfl⟩
        have hz12189 : z12189.toInt = z12183.toInt + 1 := ar_add ez12189 rfl (by decide : (1 : Int32).toInt = 1) (by omega) (by omega)
        refine lv_iinc (v := z12189) (lv' := [(1, .int z12189), (0, .ref p0)]) hx hb dX0_empty_13 hl (k := 1) rfl (by rw [ez12189]; rfl) (by decide) rfl (fun ls hl => ?_)
        refine lv_goto (tgt := 2) hx hb dX0_empty_16 (by decide) ?_
        exact ih2 z12189 _ _ _ _ (by omega) (by omega) hT hfr  (lv_sub hl [1, 0] rfl)
  refine lv_iconst (v := 0) hx hb dX0_empty_0 (by decide) ?_
  refine lv_istore_n (lv' := [(1, .int 0), (0, .ref p0)]) hx hb dX0_empty_1 rfl hl (by decide) rfl (fun ls hl => ?_)
  have kk12190 : (0 : Int32).toInt = 0 := by decide
  exact K2 49 0 _ _ _ _ (by omega) (by decide) hT hfr  (lv_sub hl [1, 0] rfl)
set_option maxHeartbeats 4000000 in
set_option maxRecDepth 100000 in
theorem kt53_X0_byDoor (l : Launch) (G : KG) (tag : Nat → Nat) (L : List Nat) (F : Nat → va_E) (ho : okT G ttC tag L F) (p0 : Nat) (p1 : Int32) (p2 : Int32) (m0 : p0 ∈ L) (g0 : tag p0 = 19) : TMi l yX0_byDoor cX0_byDoor 3 (some .int) { frames := 3, cells := 0, slots := 0, locals := 68 } G ttC tag L F [.ref p0, .int p1, .int p2] (fun r F1 => F1 = F ∧ ((-2147483648) ≤ r.toInt ∧ r.toInt ≤ 2147483647)) := by
  refine t_bodyi (y := yX0_byDoor) (cd := cX0_byDoor) (mL := 3) (rt := (some .int)) (rm := { frames := 3, cells := 0, slots := 0, locals := 68 }) (av := [.ref p0, .int p1, .int p2]) (by decide) (Nat.le_of_ble_eq_true rfl) ho ?_
  intro p e s m args below meth c ls A Q hQ X hT hl
  have hx := X.1.1
  have hb := X.1.2.1
  have hl : lv_has ls 3 [(0, .ref p0), (1, .int p1), (2, .int p2)] := hl
  have rp1 := rg_all p1
  have rp2 := rg_all p2
  refine lv_aload_n hx hb dX0_byDoor_0 rfl (lv_at hl 0 rfl) ?_
  refine lv_iload_n hx hb dX0_byDoor_1 rfl (lv_at hl 1 rfl) ?_
  refine lv_iload_n hx hb dX0_byDoor_2 rfl (lv_at hl 2 rfl) ?_
  refine t_cVi (n := 2) (C := RX7) (T := TX7) (N := 7) (As := [.int p1, .int p2]) (rest := []) X hT (kt21_X7_stands l G tag L F hT.2.2.2 p0 p1 p2 m0 g0) m0 g0 rfl rfl qw_1028 qw_853 qw_854 qw_22 qw_855 ⟨rfl, by decide +kernel, by decide +kernel, by decide +kernel⟩ ⟨Nat.le_of_ble_eq_true rfl, Nat.le_of_ble_eq_true rfl⟩ hl rfl rfl (Nat.le_of_ble_eq_true rfl) dX0_byDoor_3 ⟨Nat.le_of_ble_eq_true rfl, Nat.le_of_ble_eq_true rfl⟩ (fun z12323 F9 H locs hT hz12323 => ?_)
  obtain ⟨fz12323, hz12323⟩ := hz12323
  rw [fz12323] at hT
  refine lv_if_ne (tgt := 12) hx hb dX0_byDoor_6 (by decide) (fun c12324 => ?_) (fun c12324 => ?_)
  · have w12325 := cv_ne (rfl : z12323.toInt = z12323.toInt) (by decide : (0 : Int32).toInt = 0) c12324
    refine lv_aload_n hx hb dX0_byDoor_12 rfl (lv_at hl 0 rfl) ?_
    refine lv_iload_n hx hb dX0_byDoor_13 rfl (lv_at hl 1 rfl) ?_
    refine lv_iload_n hx hb dX0_byDoor_14 rfl (lv_at hl 2 rfl) ?_
    refine t_cVi (n := 2) (C := RX7) (T := TX7) (N := 7) (As := [.int p1, .int p2]) (rest := []) X hT (kt33_X7_isOpen l G tag L F hT.2.2.2 p0 p1 p2 m0 g0) m0 g0 rfl rfl qw_1029 qw_984 qw_985 qw_22 qw_986 ⟨rfl, by decide +kernel, by decide +kernel, by decide +kernel⟩ ⟨Nat.le_of_ble_eq_true rfl, Nat.le_of_ble_eq_true rfl⟩ hl rfl rfl (Nat.le_of_ble_eq_true rfl) dX0_byDoor_15 ⟨Nat.le_of_ble_eq_true rfl, Nat.le_of_ble_eq_true rfl⟩ (fun z12326 F9 H locs hT hz12326 => ?_)
    obtain ⟨fz12326, hz12326⟩ := hz12326
    rw [fz12326] at hT
    refine lv_if_ne (tgt := 25) hx hb dX0_byDoor_18 (by decide) (fun c12327 => ?_) (fun c12327 => ?_)
    · have w12328 := cv_ne (rfl : z12326.toInt = z12326.toInt) (by decide : (0 : Int32).toInt = 0) c12327
      refine lv_aload_n hx hb dX0_byDoor_25 rfl (lv_at hl 0 rfl) ?_
      refine lv_iload_n hx hb dX0_byDoor_26 rfl (lv_at hl 1 rfl) ?_
      refine lv_iload_n hx hb dX0_byDoor_27 rfl (lv_at hl 2 rfl) ?_
      refine lv_iconst (v := 3) hx hb dX0_byDoor_28 (by decide) ?_
      refine t_cVi (n := 3) (C := RX7) (T := TX7) (N := 7) (As := [.int p1, .int p2, .int 3]) (rest := []) X hT (kt19_X7_partOf l G tag L F hT.2.2.2 p0 p1 p2 3 m0 g0) m0 g0 rfl rfl qw_1030 qw_778 qw_779 qw_22 qw_780 ⟨rfl, by decide +kernel, by decide +kernel, by decide +kernel⟩ ⟨Nat.le_of_ble_eq_true rfl, Nat.le_of_ble_eq_true rfl⟩ hl rfl rfl (Nat.le_of_ble_eq_true rfl) dX0_byDoor_29 ⟨Nat.le_of_ble_eq_true rfl, Nat.le_of_ble_eq_true rfl⟩ (fun z12329 F9 H locs hT hz12329 => ?_)
      obtain ⟨fz12329, hz12329⟩ := hz12329
      rw [fz12329] at hT
      refine lv_iconst (v := 1) hx hb dX0_byDoor_32 (by decide) ?_
      refine lv_iadd hx hb dX0_byDoor_33 ?_
      refine lv_topi (fun z12330 ez12330 => ?_)
      have rz12330 := rg_all z12330
      refine lv_bipush (v := 8) hx hb dX0_byDoor_34 (by decide) ?_
      refine lv_imul hx hb dX0_byDoor_36 ?_
      refine lv_topi (fun z12331 ez12331 => ?_)
      have rz12331 := rg_all z12331
      exact t_iret hQ X hT (⟨rfl, rg_all _⟩) (Nat.le_of_ble_eq_true rfl) (Nat.le_of_ble_eq_true rfl) dX0_byDoor_37
    · have w12332 := cv_eq (rfl : z12326.toInt = z12326.toInt) (by decide : (0 : Int32).toInt = 0) c12327
      refine lv_sipush (v := 160) hx hb dX0_byDoor_21 (by decide) ?_
      exact t_iret hQ X hT (⟨rfl, rg_all _⟩) (Nat.le_of_ble_eq_true rfl) (Nat.le_of_ble_eq_true rfl) dX0_byDoor_24
  · have w12333 := cv_eq (rfl : z12323.toInt = z12323.toInt) (by decide : (0 : Int32).toInt = 0) c12324
    refine lv_bipush (v := 8) hx hb dX0_byDoor_9 (by decide) ?_
    exact t_iret hQ X hT (⟨rfl, rg_all _⟩) (Nat.le_of_ble_eq_true rfl) (Nat.le_of_ble_eq_true rfl) dX0_byDoor_11
set_option maxHeartbeats 4000000 in
set_option maxRecDepth 100000 in
theorem kt54_X0_byWall (l : Launch) (G : KG) (tag : Nat → Nat) (L : List Nat) (F : Nat → va_E) (ho : okT G ttC tag L F) (p0 : Nat) (p1 : Nat) (p2 : Int32) (p3 : Int32) (m0 : p0 ∈ L) (g0 : tag p0 = 18) (m1 : p1 ∈ L) (g1 : tag p1 = 19) : TMi l yX0_byWall cX0_byWall 5 (some .int) { frames := 3, cells := 0, slots := 0, locals := 68 } G ttC tag L F [.ref p0, .ref p1, .int p2, .int p3] (fun r F1 => F1 = F ∧ ((-2147483648) ≤ r.toInt ∧ r.toInt ≤ 2147483647)) := by
  refine t_bodyi (y := yX0_byWall) (cd := cX0_byWall) (mL := 5) (rt := (some .int)) (rm := { frames := 3, cells := 0, slots := 0, locals := 68 }) (av := [.ref p0, .ref p1, .int p2, .int p3]) (by decide) (Nat.le_of_ble_eq_true rfl) ho ?_
  intro p e s m args below meth c ls A Q hQ X hT hl
  have hx := X.1.1
  have hb := X.1.2.1
  have hl : lv_has ls 5 [(0, .ref p0), (1, .ref p1), (2, .int p2), (3, .int p3)] := hl
  have rp2 := rg_all p2
  have rp3 := rg_all p3
  refine lv_aload_n hx hb dX0_byWall_0 rfl (lv_at hl 1 rfl) ?_
  refine lv_iload_n hx hb dX0_byWall_1 rfl (lv_at hl 2 rfl) ?_
  refine lv_iload_n hx hb dX0_byWall_2 rfl (lv_at hl 3 rfl) ?_
  refine t_cVi (n := 2) (C := RX7) (T := TX7) (N := 7) (As := [.int p2, .int p3]) (rest := []) X hT (kt21_X7_stands l G tag L F hT.2.2.2 p1 p2 p3 m1 g1) m1 g1 rfl rfl qw_1028 qw_853 qw_854 qw_22 qw_855 ⟨rfl, by decide +kernel, by decide +kernel, by decide +kernel⟩ ⟨Nat.le_of_ble_eq_true rfl, Nat.le_of_ble_eq_true rfl⟩ hl rfl rfl (Nat.le_of_ble_eq_true rfl) dX0_byWall_3 ⟨Nat.le_of_ble_eq_true rfl, Nat.le_of_ble_eq_true rfl⟩ (fun z12500 F9 H locs hT hz12500 => ?_)
  obtain ⟨fz12500, hz12500⟩ := hz12500
  rw [fz12500] at hT
  refine lv_if_ne (tgt := 12) hx hb dX0_byWall_6 (by decide) (fun c12501 => ?_) (fun c12501 => ?_)
  · have w12502 := cv_ne (rfl : z12500.toInt = z12500.toInt) (by decide : (0 : Int32).toInt = 0) c12501
    refine lv_aload_n hx hb dX0_byWall_12 rfl (lv_at hl 1 rfl) ?_
    refine lv_iload_n hx hb dX0_byWall_13 rfl (lv_at hl 2 rfl) ?_
    refine lv_iload_n hx hb dX0_byWall_14 rfl (lv_at hl 3 rfl) ?_
    refine t_cVi (n := 2) (C := RX7) (T := TX7) (N := 7) (As := [.int p2, .int p3]) (rest := []) X hT (kt33_X7_isOpen l G tag L F hT.2.2.2 p1 p2 p3 m1 g1) m1 g1 rfl rfl qw_1029 qw_984 qw_985 qw_22 qw_986 ⟨rfl, by decide +kernel, by decide +kernel, by decide +kernel⟩ ⟨Nat.le_of_ble_eq_true rfl, Nat.le_of_ble_eq_true rfl⟩ hl rfl rfl (Nat.le_of_ble_eq_true rfl) dX0_byWall_15 ⟨Nat.le_of_ble_eq_true rfl, Nat.le_of_ble_eq_true rfl⟩ (fun z12503 F9 H locs hT hz12503 => ?_)
    obtain ⟨fz12503, hz12503⟩ := hz12503
    rw [fz12503] at hT
    refine lv_if_ne (tgt := 25) hx hb dX0_byWall_18 (by decide) (fun c12504 => ?_) (fun c12504 => ?_)
    · have w12505 := cv_ne (rfl : z12503.toInt = z12503.toInt) (by decide : (0 : Int32).toInt = 0) c12504
      refine lv_aload_n hx hb dX0_byWall_25 rfl (lv_at hl 0 rfl) ?_
      refine lv_aload_n hx hb dX0_byWall_26 rfl (lv_at hl 1 rfl) ?_
      refine lv_iload_n hx hb dX0_byWall_27 rfl (lv_at hl 2 rfl) ?_
      refine lv_iload_n hx hb dX0_byWall_28 rfl (lv_at hl 3 rfl) ?_
      refine lv_iconst (v := 0) hx hb dX0_byWall_29 (by decide) ?_
      refine t_cVi (n := 3) (C := RX7) (T := TX7) (N := 7) (As := [.int p2, .int p3, .int 0]) (rest := [.ref p0]) X hT (kt19_X7_partOf l G tag L F hT.2.2.2 p1 p2 p3 0 m1 g1) m1 g1 rfl rfl qw_1030 qw_778 qw_779 qw_22 qw_780 ⟨rfl, by decide +kernel, by decide +kernel, by decide +kernel⟩ ⟨Nat.le_of_ble_eq_true rfl, Nat.le_of_ble_eq_true rfl⟩ hl rfl rfl (Nat.le_of_ble_eq_true rfl) dX0_byWall_30 ⟨Nat.le_of_ble_eq_true rfl, Nat.le_of_ble_eq_true rfl⟩ (fun z12506 F9 H locs hT hz12506 => ?_)
      obtain ⟨fz12506, hz12506⟩ := hz12506
      rw [fz12506] at hT
      refine lv_iconst (v := 4) hx hb dX0_byWall_33 (by decide) ?_
      refine t_cVi (n := 2) (C := RX1) (T := TX1) (N := 20) (As := [.int z12506, .int 4]) (rest := []) X hT (kt48_X1_stonePart l G tag L F hT.2.2.2 p0 z12506 4 m0 g0) m0 g0 rfl rfl qw_1035 qw_858 qw_859 qw_17 qw_860 ⟨rfl, by decide +kernel, by decide +kernel, by decide +kernel⟩ ⟨Nat.le_of_ble_eq_true rfl, Nat.le_of_ble_eq_true rfl⟩ hl rfl rfl (Nat.le_of_ble_eq_true rfl) dX0_byWall_34 ⟨Nat.le_of_ble_eq_true rfl, Nat.le_of_ble_eq_true rfl⟩ (fun z12507 F9 H locs hT hz12507 => ?_)
      obtain ⟨fz12507, hz12507⟩ := hz12507
      rw [fz12507] at hT
      refine lv_istore (lv' := [(4, .int z12507), (0, .ref p0), (1, .ref p1), (2, .int p2), (3, .int p3)]) hx hb dX0_byWall_37 hl (by decide) rfl (fun ls hl => ?_)
      refine lv_iconst (v := 1) hx hb dX0_byWall_39 (by decide) ?_
      refine lv_iload hx hb dX0_byWall_40 (lv_at hl 0 rfl) ?_
      refine lv_aload_n hx hb dX0_byWall_42 rfl (lv_at hl 2 rfl) ?_
      refine lv_iload_n hx hb dX0_byWall_43 rfl (lv_at hl 3 rfl) ?_
      refine lv_iload_n hx hb dX0_byWall_44 rfl (lv_at hl 4 rfl) ?_
      refine lv_iconst (v := 4) hx hb dX0_byWall_45 (by decide) ?_
      refine t_cVi (n := 3) (C := RX7) (T := TX7) (N := 7) (As := [.int p2, .int p3, .int 4]) (rest := [.int z12507, .int 1]) X hT (kt19_X7_partOf l G tag L F hT.2.2.2 p1 p2 p3 4 m1 g1) m1 g1 rfl rfl qw_1030 qw_778 qw_779 qw_22 qw_780 ⟨rfl, by decide +kernel, by decide +kernel, by decide +kernel⟩ ⟨Nat.le_of_ble_eq_true rfl, Nat.le_of_ble_eq_true rfl⟩ hl rfl rfl (Nat.le_of_ble_eq_true rfl) dX0_byWall_46 ⟨Nat.le_of_ble_eq_true rfl, Nat.le_of_ble_eq_true rfl⟩ (fun z12508 F9 H locs hT hz12508 => ?_)
      obtain ⟨fz12508, hz12508⟩ := hz12508
      rw [fz12508] at hT
      refine lv_isub hx hb dX0_byWall_49 ?_
      refine lv_topi (fun z12509 ez12509 => ?_)
      have rz12509 := rg_all z12509
      refine t_mmax X hl qw_1034 qw_849 qw_850 qw_851 (Nat.le_of_ble_eq_true rfl) (Nat.le_of_ble_eq_true rfl) (Nat.le_of_ble_eq_true rfl) (Nat.le_of_ble_eq_true rfl) dX0_byWall_50 (fun z12510 ez12510 => ?_)
      have hz12510 := mmax_e ez12510 (by decide : (1 : Int32).toInt = 1) (rfl : z12509.toInt = z12509.toInt)
      refine lv_bipush (v := 8) hx hb dX0_byWall_53 (by decide) ?_
      refine lv_imul hx hb dX0_byWall_55 ?_
      refine lv_topi (fun z12511 ez12511 => ?_)
      have rz12511 := rg_all z12511
      refine lv_iconst (v := 1) hx hb dX0_byWall_56 (by decide) ?_
      refine lv_iadd hx hb dX0_byWall_57 ?_
      refine lv_topi (fun z12512 ez12512 => ?_)
      have rz12512 := rg_all z12512
      exact t_iret hQ X hT (⟨rfl, rg_all _⟩) (Nat.le_of_ble_eq_true rfl) (Nat.le_of_ble_eq_true rfl) dX0_byWall_58
    · have w12513 := cv_eq (rfl : z12503.toInt = z12503.toInt) (by decide : (0 : Int32).toInt = 0) c12504
      refine lv_sipush (v := 161) hx hb dX0_byWall_21 (by decide) ?_
      exact t_iret hQ X hT (⟨rfl, rg_all _⟩) (Nat.le_of_ble_eq_true rfl) (Nat.le_of_ble_eq_true rfl) dX0_byWall_24
  · have w12514 := cv_eq (rfl : z12500.toInt = z12500.toInt) (by decide : (0 : Int32).toInt = 0) c12501
    refine lv_bipush (v := 9) hx hb dX0_byWall_9 (by decide) ?_
    exact t_iret hQ X hT (⟨rfl, rg_all _⟩) (Nat.le_of_ble_eq_true rfl) (Nat.le_of_ble_eq_true rfl) dX0_byWall_11
set_option maxHeartbeats 4000000 in
set_option maxRecDepth 100000 in
theorem kt55_X0_least (l : Launch) (G : KG) (tag : Nat → Nat) (L : List Nat) (F : Nat → va_E) (ho : okT G ttC tag L F) (p0 : Nat) (p1 : Int32) (m0 : p0 ∈ L) (g0 : tag p0 = 21) : TMi l yX0_least cX0_least 4 (some .int) { frames := 1, cells := 0, slots := 0, locals := 13 } G ttC tag L F [.ref p0, .int p1] (fun r F1 => F1 = F ∧ ((-2147483648) ≤ r.toInt ∧ r.toInt ≤ 1000000)) := by
  refine t_bodyi (y := yX0_least) (cd := cX0_least) (mL := 4) (rt := (some .int)) (rm := { frames := 1, cells := 0, slots := 0, locals := 13 }) (av := [.ref p0, .int p1]) (by decide) (Nat.le_of_ble_eq_true rfl) ho ?_
  intro p e s m args below meth c ls A Q hQ X hT hl
  have hx := X.1.1
  have hb := X.1.2.1
  have hl : lv_has ls 4 [(0, .ref p0), (1, .int p1)] := hl
  have rp1 := rg_all p1
  have K5 : ∀ (n : Nat) (z12922 : Int32) (z12923 : Int32) (H : Heap) (locs : List Loc) (ls : Array Slot), (48 - z12923.toInt < (n : Int)) → ((-2147483648) ≤ z12922.toInt ∧ z12922.toInt ≤ 1000000) → (0 ≤ z12923.toInt ∧ z12923.toInt ≤ 48) → TH G ttC A s tag L F H locs → lv_has ls 4 [(0, .ref p0), (1, .int p1), (2, .int z12922), (3, .int z12923)] → W p l e { frames := 1, cells := 0, slots := 0, locals := 13 } s m args below meth c H locs 0 0 Q (F0 m 5 ls []) := by
    intro n
    induction n with
    | zero =>
      intro z12922 z12923 H locs ls hn rz12922 rz12923 hT hl
      exfalso
      omega
    | succ n ih5 =>
      intro z12922 z12923 H locs ls hn rz12922 rz12923 hT hl
      refine lv_iload_n hx hb dX0_least_5 rfl (lv_at hl 3 rfl) ?_
      refine lv_iload_n hx hb dX0_least_6 rfl (lv_at hl 1 rfl) ?_
      refine lv_icmp_ge (tgt := 36) hx hb dX0_least_7 (by decide) (fun c12924 => ?_) (fun c12924 => ?_)
      · have w12925 := cv_le (rfl : p1.toInt = p1.toInt) (rfl : z12923.toInt = z12923.toInt) c12924
        refine lv_iload_n hx hb dX0_least_36 rfl (lv_at hl 2 rfl) ?_
        exact t_iret hQ X hT (⟨rfl, (by omega)⟩) (Nat.le_of_ble_eq_true rfl) (Nat.le_of_ble_eq_true rfl) dX0_least_37
      · have w12926 := cv_nle (rfl : p1.toInt = p1.toInt) (rfl : z12923.toInt = z12923.toInt) c12924
        refine lv_iload_n hx hb dX0_least_10 rfl (lv_at hl 3 rfl) ?_
        refine lv_aload_n hx hb dX0_least_11 rfl (lv_at hl 0 rfl) ?_
        refine t_get (C := RX0) (T := TX0) (N := 2) X hT m0 g0 rfl rfl 0 (by decide) qw_88 inlX0 rfl dX0_least_12 (fun v12927 hv12927 ov12927 => ?_)
        obtain ⟨b12928, rfl, mb12928, gb12928⟩ := okV_r ov12927
        have gb12928 : tag b12928 = 12 := tg_of gb12928
        refine t_alen X hT mb12928 gb12928 rfl (by decide) dX0_least_15 ?_
        refine lv_topi (fun z12929 ez12929 => ?_)
        obtain rfl : z12929 = 48 := ez12929.trans (by rfl)
        refine lv_icmp_ge (tgt := 36) hx hb dX0_least_16 (by decide) (fun c12930 => ?_) (fun c12930 => ?_)
        · have w12931 := cv_le (by decide : (48 : Int32).toInt = 48) (rfl : z12923.toInt = z12923.toInt) c12930
          refine lv_iload_n hx hb dX0_least_36 rfl (lv_at hl 2 rfl) ?_
          exact t_iret hQ X hT (⟨rfl, (by omega)⟩) (Nat.le_of_ble_eq_true rfl) (Nat.le_of_ble_eq_true rfl) dX0_least_37
        · have w12932 := cv_nle (by decide : (48 : Int32).toInt = 48) (rfl : z12923.toInt = z12923.toInt) c12930
          refine lv_iload_n hx hb dX0_least_19 rfl (lv_at hl 2 rfl) ?_
          refine lv_aload_n hx hb dX0_least_20 rfl (lv_at hl 0 rfl) ?_
          refine t_get (C := RX0) (T := TX0) (N := 2) X hT m0 g0 rfl rfl 0 (by decide) qw_88 inlX0 rfl dX0_least_21 (fun v12933 hv12933 ov12933 => ?_)
          obtain rfl : v12933 = .ref b12928 := hv12933.symm.trans hv12927
          refine lv_iload_n hx hb dX0_least_24 rfl (lv_at hl 3 rfl) ?_
          refine t_ild X hT mb12928 gb12928 rfl (by omega) dX0_least_25 (fun z12934 vz12934 rz12934 => ?_)
          have rz12934 : (-2147483648) ≤ z12934.toInt ∧ z12934.toInt ≤ 2147483647 := rz12934
          refine t_mmin X hl qw_1017 qw_1018 qw_850 qw_1019 (Nat.le_of_ble_eq_true rfl) (Nat.le_of_ble_eq_true rfl) (Nat.le_of_ble_eq_true rfl) (Nat.le_of_ble_eq_true rfl) dX0_least_26 (fun z12935 ez12935 => ?_)
          have hz12935 := mmin_e ez12935 (rfl : z12922.toInt = z12922.toInt) (rfl : z12934.toInt = z12934.toInt)
          refine lv_istore_n (lv' := [(2, .int z12935), (0, .ref p0), (1, .int p1), (3, .int z12923)]) hx hb dX0_least_29 rfl hl (by decide) rfl (fun ls hl => ?_)
          obtain ⟨z12936, ez12936⟩ : ∃ y : Int32, y = z12923 + 1 := ⟨_, rfl⟩
          have hz12936 : z12936.toInt = z12923.toInt + 1 := ar_add ez12936 rfl (by decide : (1 : Int32).toInt = 1) (by omega) (by omega)
          refine lv_iinc (v := z12936) (lv' := [(3, .int z12936), (2, .int z12935), (0, .ref p0), (1, .int p1)]) hx hb dX0_least_30 hl (k := 3) rfl (by rw [ez12936]; rfl) (by decide) rfl (fun ls hl => ?_)
          refine lv_goto (tgt := 5) hx hb dX0_least_33 (by decide) ?_
          exact ih5 z12935 z12936 _ _ _ (by omega) (by omega) (by omega) hT  (lv_sub hl [2, 3, 1, 0] rfl)
  refine m_ldc X qw_1023 dX0_least_0 ?_
  refine lv_istore_n (lv' := [(2, .int 1000000), (0, .ref p0), (1, .int p1)]) hx hb dX0_least_2 rfl hl (by decide) rfl (fun ls hl => ?_)
  refine lv_iconst (v := 0) hx hb dX0_least_3 (by decide) ?_
  refine lv_istore_n (lv' := [(3, .int 0), (2, .int 1000000), (0, .ref p0), (1, .int p1)]) hx hb dX0_least_4 rfl hl (by decide) rfl (fun ls hl => ?_)
  have kk12937 : (1000000 : Int32).toInt = 1000000 := by decide
  have kk12938 : (0 : Int32).toInt = 0 := by decide
  exact K5 49 1000000 0 _ _ _ (by omega) (by decide) (by decide) hT  (lv_sub hl [2, 3, 1, 0] rfl)
set_option maxHeartbeats 4000000 in
set_option maxRecDepth 100000 in
theorem kt56_X0_goRound (l : Launch) (G : KG) (tag : Nat → Nat) (L : List Nat) (Fo : Nat → va_E) (ho : okT G ttC tag L Fo) (p0 : Nat) (p1 : Int32) (m0 : p0 ∈ L) (g0 : tag p0 = 21) : TMv l yX0_goRound cX0_goRound 5 { frames := 1, cells := 0, slots := 0, locals := 15 } G ttC tag L Fo [.ref p0, .int p1] (fun F1 => ∀ b j : Nat, fld F1 b j = fld Fo b j) := by
  refine t_bodyv (y := yX0_goRound) (cd := cX0_goRound) (mL := 5) (rm := { frames := 1, cells := 0, slots := 0, locals := 15 }) (av := [.ref p0, .int p1]) (by decide) (Nat.le_of_ble_eq_true rfl) ho ?_
  intro p e s m args below meth c ls A Q hQ X hT hl
  have hx := X.1.1
  have hb := X.1.2.1
  have hl : lv_has ls 5 [(0, .ref p0), (1, .int p1)] := hl
  have rp1 := rg_all p1
  obtain ⟨F, hFo⟩ : ∃ F : Nat → va_E, F = Fo := ⟨_, rfl⟩
  rw [← hFo] at hT
  have hfr : ∀ b j : Nat, fld F b j = fld Fo b j := by
    rw [hFo]
    intros
    rfl
  have K73 : ∀ (n : Nat) (z13918 : Int32) (z13919 : Int32) (F : Nat → va_E) (H : Heap) (locs : List Loc) (ls : Array Slot), (z13919.toInt - 0 < (n : Int)) → (1 ≤ z13918.toInt ∧ z13918.toInt ≤ 48) → (0 ≤ z13919.toInt ∧ z13919.toInt ≤ 96) → TH G ttC A s tag L F H locs → (∀ b j : Nat, fld F b j = fld Fo b j) → lv_has ls 5 [(0, .ref p0), (1, .int p1), (2, .int z13918), (3, .int z13919)] → W p l e { frames := 1, cells := 0, slots := 0, locals := 15 } s m args below meth c H locs 0 0 Q (F0 m 73 ls []) := by
    intro n
    induction n with
    | zero =>
      intro z13918 z13919 F H locs ls hn rz13918 rz13919 hT hfr hl
      exfalso
      omega
    | succ n ih73 =>
      intro z13918 z13919 F H locs ls hn rz13918 rz13919 hT hfr hl
      refine lv_iload_n hx hb dX0_goRound_73 rfl (lv_at hl 3 rfl) ?_
      refine lv_if_le (tgt := 118) hx hb dX0_goRound_74 (by decide) (fun c13920 => ?_) (fun c13920 => ?_)
      · have w13921 := cv_le (rfl : z13919.toInt = z13919.toInt) (by decide : (0 : Int32).toInt = 0) c13920
        exact t_vret hQ X hT hfr (Nat.le_of_ble_eq_true rfl) (Nat.le_of_ble_eq_true rfl) dX0_goRound_118
      · have w13922 := cv_nle (rfl : z13919.toInt = z13919.toInt) (by decide : (0 : Int32).toInt = 0) c13920
        refine lv_iload_n hx hb dX0_goRound_77 rfl (lv_at hl 3 rfl) ?_
        refine lv_iconst (v := 1) hx hb dX0_goRound_78 (by decide) ?_
        refine lv_isub hx hb dX0_goRound_79 ?_
        refine lv_topi (fun z13923 ez13923 => ?_)
        have hz13923 : z13923.toInt = z13919.toInt - 1 := ar_sub ez13923 (rfl : z13919.toInt = z13919.toInt) (by decide : (1 : Int32).toInt = 1) (by omega) (by omega)
        have rz13923 : 0 ≤ z13923.toInt ∧ z13923.toInt ≤ 95 := by omega
        refine lv_iload_n hx hb dX0_goRound_80 rfl (lv_at hl 2 rfl) ?_
        refine lv_irem hx hb dX0_goRound_81 (ne0_of (by omega)) ?_
        refine lv_topi (fun z13924 ez13924 => ?_)
        have hz13924 := ar_remv ez13924 (by omega) (by omega)
        have rz13924 : 0 ≤ z13924.toInt ∧ z13924.toInt ≤ 47 := by omega
        refine lv_istore (lv' := [(4, .int z13924), (0, .ref p0), (1, .int p1), (2, .int z13918), (3, .int z13919)]) hx hb dX0_goRound_82 hl (by decide) rfl (fun ls hl => ?_)
        refine lv_aload_n hx hb dX0_goRound_84 rfl (lv_at hl 1 rfl) ?_
        refine t_get (C := RX0) (T := TX0) (N := 2) X hT m0 g0 rfl rfl 0 (by decide) qw_88 inlX0 rfl dX0_goRound_85 (fun v13925 hv13925 ov13925 => ?_)
        obtain ⟨b13926, rfl, mb13926, gb13926⟩ := okV_r ov13925
        have gb13926 : tag b13926 = 12 := tg_of gb13926
        refine lv_iload hx hb dX0_goRound_88 (lv_at hl 0 rfl) ?_
        refine lv_aload_n hx hb dX0_goRound_90 rfl (lv_at hl 1 rfl) ?_
        refine t_get (C := RX0) (T := TX0) (N := 2) X hT m0 g0 rfl rfl 0 (by decide) qw_88 inlX0 rfl dX0_goRound_91 (fun v13927 hv13927 ov13927 => ?_)
        obtain rfl : v13927 = .ref b13926 := hv13927.symm.trans hv13925
        refine lv_iload hx hb dX0_goRound_94 (lv_at hl 0 rfl) ?_
        refine t_ild X hT mb13926 gb13926 rfl (by omega) dX0_goRound_96 (fun z13928 vz13928 rz13928 => ?_)
        have rz13928 : (-2147483648) ≤ z13928.toInt ∧ z13928.toInt ≤ 2147483647 := rz13928
        refine lv_aload_n hx hb dX0_goRound_97 rfl (lv_at hl 1 rfl) ?_
        refine t_get (C := RX0) (T := TX0) (N := 2) X hT m0 g0 rfl rfl 0 (by decide) qw_88 inlX0 rfl dX0_goRound_98 (fun v13929 hv13929 ov13929 => ?_)
        obtain rfl : v13929 = .ref b13926 := hv13929.symm.trans hv13925
        refine lv_iload_n hx hb dX0_goRound_101 rfl (lv_at hl 4 rfl) ?_
        refine lv_iload_n hx hb dX0_goRound_102 rfl (lv_at hl 3 rfl) ?_
        refine lv_irem hx hb dX0_goRound_103 (ne0_of (by omega)) ?_
        refine lv_topi (fun z13930 ez13930 => ?_)
        have hz13930 := ar_remv ez13930 (by omega) (by omega)
        have rz13930 : 0 ≤ z13930.toInt ∧ z13930.toInt ≤ 47 := by omega
        refine t_ild X hT mb13926 gb13926 rfl (by omega) dX0_goRound_104 (fun z13931 vz13931 rz13931 => ?_)
        have rz13931 : (-2147483648) ≤ z13931.toInt ∧ z13931.toInt ≤ 2147483647 := rz13931
        refine lv_bipush (v := 8) hx hb dX0_goRound_105 (by decide) ?_
        refine lv_iadd hx hb dX0_goRound_107 ?_
        refine lv_topi (fun z13932 ez13932 => ?_)
        have rz13932 := rg_all z13932
        refine t_mmin X hl qw_1017 qw_1018 qw_850 qw_1019 (Nat.le_of_ble_eq_true rfl) (Nat.le_of_ble_eq_true rfl) (Nat.le_of_ble_eq_true rfl) (Nat.le_of_ble_eq_true rfl) dX0_goRound_108 (fun z13933 ez13933 => ?_)
        have hz13933 := mmin_e ez13933 (rfl : z13928.toInt = z13928.toInt) (rfl : z13932.toInt = z13932.toInt)
        refine t_ist X hT mb13926 gb13926 rfl (by omega) (show (-2147483648) ≤ (z13933 : Int32).toInt ∧ (z13933 : Int32).toInt ≤ 2147483647 from (by omega)) dX0_goRound_111 (fun F H locs hT v13934 h1v13934 h2v13934 => ?_)
        have hv13925 := (h2v13934 _ _).trans hv13925
        have hfr : ∀ b j : Nat, fld F b j = fld Fo b j := fun b j  => (h2v13934 b j).trans (hfr b j )
        obtain ⟨z13935, ez13935⟩ : ∃ y : Int32, y = z13919 + (-1) := ⟨_, rfl⟩
        have hz13935 : z13935.toInt = z13919.toInt + (-1) := ar_add ez13935 rfl (by decide : ((-1) : Int32).toInt = (-1)) (by omega) (by omega)
        refine lv_iinc (v := z13935) (lv' := [(3, .int z13935), (4, .int z13924), (0, .ref p0), (1, .int p1), (2, .int z13918)]) hx hb dX0_goRound_112 hl (k := 4) rfl (by rw [ez13935]; rfl) (by decide) rfl (fun ls hl => ?_)
        refine lv_goto (tgt := 73) hx hb dX0_goRound_115 (by decide) ?_
        exact ih73 z13918 z13935 _ _ _ _ (by omega) (by omega) (by omega) hT hfr  (lv_sub hl [2, 3, 4, 0] rfl)
  have K21 : ∀ (n : Nat) (z13936 : Int32) (z13937 : Int32) (F : Nat → va_E) (H : Heap) (locs : List Loc) (ls : Array Slot), (96 - z13937.toInt < (n : Int)) → (1 ≤ z13936.toInt ∧ z13936.toInt ≤ 48) → (0 ≤ z13937.toInt ∧ z13937.toInt ≤ 96) → TH G ttC A s tag L F H locs → (∀ b j : Nat, fld F b j = fld Fo b j) → lv_has ls 5 [(0, .ref p0), (1, .int p1), (2, .int z13936), (3, .int z13937)] → W p l e { frames := 1, cells := 0, slots := 0, locals := 15 } s m args below meth c H locs 0 0 Q (F0 m 21 ls []) := by
    intro n
    induction n with
    | zero =>
      intro z13936 z13937 F H locs ls hn rz13936 rz13937 hT hfr hl
      exfalso
      omega
    | succ n ih21 =>
      intro z13936 z13937 F H locs ls hn rz13936 rz13937 hT hfr hl
      refine lv_iload_n hx hb dX0_goRound_21 rfl (lv_at hl 3 rfl) ?_
      refine lv_iconst (v := 2) hx hb dX0_goRound_22 (by decide) ?_
      refine lv_iload_n hx hb dX0_goRound_23 rfl (lv_at hl 2 rfl) ?_
      refine lv_imul hx hb dX0_goRound_24 ?_
      refine lv_topi (fun z13938 ez13938 => ?_)
      have hz13938 : z13938.toInt = 2 * z13936.toInt := ar_mul ez13938 (by decide : (2 : Int32).toInt = 2) (rfl : z13936.toInt = z13936.toInt) (by omega) (by omega)
      have rz13938 : 2 ≤ z13938.toInt ∧ z13938.toInt ≤ 96 := by omega
      refine lv_icmp_ge (tgt := 69) hx hb dX0_goRound_25 (by decide) (fun c13939 => ?_) (fun c13939 => ?_)
      · have w13940 := cv_le (rfl : z13938.toInt = z13938.toInt) (rfl : z13937.toInt = z13937.toInt) c13939
        refine lv_iconst (v := 2) hx hb dX0_goRound_69 (by decide) ?_
        refine lv_iload_n hx hb dX0_goRound_70 rfl (lv_at hl 2 rfl) ?_
        refine lv_imul hx hb dX0_goRound_71 ?_
        refine lv_topi (fun z13941 ez13941 => ?_)
        have hz13941 : z13941.toInt = 2 * z13936.toInt := ar_mul ez13941 (by decide : (2 : Int32).toInt = 2) (rfl : z13936.toInt = z13936.toInt) (by omega) (by omega)
        have rz13941 : 2 ≤ z13941.toInt ∧ z13941.toInt ≤ 96 := by omega
        refine lv_istore_n (lv' := [(3, .int z13941), (0, .ref p0), (1, .int p1), (2, .int z13936)]) hx hb dX0_goRound_72 rfl hl (by decide) rfl (fun ls hl => ?_)
        exact K73 97 z13936 z13941 _ _ _ _ (by omega) (by omega) (by omega) hT hfr  (lv_sub hl [1, 2, 3, 0] rfl)
      · have w13942 := cv_nle (rfl : z13938.toInt = z13938.toInt) (rfl : z13937.toInt = z13937.toInt) c13939
        refine lv_iload_n hx hb dX0_goRound_28 rfl (lv_at hl 3 rfl) ?_
        refine lv_iconst (v := 1) hx hb dX0_goRound_29 (by decide) ?_
        refine lv_iadd hx hb dX0_goRound_30 ?_
        refine lv_topi (fun z13943 ez13943 => ?_)
        have hz13943 : z13943.toInt = z13937.toInt + 1 := ar_add ez13943 (rfl : z13937.toInt = z13937.toInt) (by decide : (1 : Int32).toInt = 1) (by omega) (by omega)
        have rz13943 : 1 ≤ z13943.toInt ∧ z13943.toInt ≤ 96 := by omega
        refine lv_iload_n hx hb dX0_goRound_31 rfl (lv_at hl 2 rfl) ?_
        refine lv_irem hx hb dX0_goRound_32 (ne0_of (by omega)) ?_
        refine lv_topi (fun z13944 ez13944 => ?_)
        have hz13944 := ar_remv ez13944 (by omega) (by omega)
        have rz13944 : 0 ≤ z13944.toInt ∧ z13944.toInt ≤ 47 := by omega
        refine lv_istore (lv' := [(4, .int z13944), (0, .ref p0), (1, .int p1), (2, .int z13936), (3, .int z13937)]) hx hb dX0_goRound_33 hl (by decide) rfl (fun ls hl => ?_)
        refine lv_aload_n hx hb dX0_goRound_35 rfl (lv_at hl 1 rfl) ?_
        refine t_get (C := RX0) (T := TX0) (N := 2) X hT m0 g0 rfl rfl 0 (by decide) qw_88 inlX0 rfl dX0_goRound_36 (fun v13945 hv13945 ov13945 => ?_)
        obtain ⟨b13946, rfl, mb13946, gb13946⟩ := okV_r ov13945
        have gb13946 : tag b13946 = 12 := tg_of gb13946
        refine lv_iload hx hb dX0_goRound_39 (lv_at hl 0 rfl) ?_
        refine lv_aload_n hx hb dX0_goRound_41 rfl (lv_at hl 1 rfl) ?_
        refine t_get (C := RX0) (T := TX0) (N := 2) X hT m0 g0 rfl rfl 0 (by decide) qw_88 inlX0 rfl dX0_goRound_42 (fun v13947 hv13947 ov13947 => ?_)
        obtain rfl : v13947 = .ref b13946 := hv13947.symm.trans hv13945
        refine lv_iload hx hb dX0_goRound_45 (lv_at hl 0 rfl) ?_
        refine t_ild X hT mb13946 gb13946 rfl (by omega) dX0_goRound_47 (fun z13948 vz13948 rz13948 => ?_)
        have rz13948 : (-2147483648) ≤ z13948.toInt ∧ z13948.toInt ≤ 2147483647 := rz13948
        refine lv_aload_n hx hb dX0_goRound_48 rfl (lv_at hl 1 rfl) ?_
        refine t_get (C := RX0) (T := TX0) (N := 2) X hT m0 g0 rfl rfl 0 (by decide) qw_88 inlX0 rfl dX0_goRound_49 (fun v13949 hv13949 ov13949 => ?_)
        obtain rfl : v13949 = .ref b13946 := hv13949.symm.trans hv13945
        refine lv_iload_n hx hb dX0_goRound_52 rfl (lv_at hl 4 rfl) ?_
        refine lv_iload_n hx hb dX0_goRound_53 rfl (lv_at hl 3 rfl) ?_
        refine lv_irem hx hb dX0_goRound_54 (ne0_of (by omega)) ?_
        refine lv_topi (fun z13950 ez13950 => ?_)
        have hz13950 := ar_remv ez13950 (by omega) (by omega)
        have rz13950 : 0 ≤ z13950.toInt ∧ z13950.toInt ≤ 47 := by omega
        refine t_ild X hT mb13946 gb13946 rfl (by omega) dX0_goRound_55 (fun z13951 vz13951 rz13951 => ?_)
        have rz13951 : (-2147483648) ≤ z13951.toInt ∧ z13951.toInt ≤ 2147483647 := rz13951
        refine lv_bipush (v := 8) hx hb dX0_goRound_56 (by decide) ?_
        refine lv_iadd hx hb dX0_goRound_58 ?_
        refine lv_topi (fun z13952 ez13952 => ?_)
        have rz13952 := rg_all z13952
        refine t_mmin X hl qw_1017 qw_1018 qw_850 qw_1019 (Nat.le_of_ble_eq_true rfl) (Nat.le_of_ble_eq_true rfl) (Nat.le_of_ble_eq_true rfl) (Nat.le_of_ble_eq_true rfl) dX0_goRound_59 (fun z13953 ez13953 => ?_)
        have hz13953 := mmin_e ez13953 (rfl : z13948.toInt = z13948.toInt) (rfl : z13952.toInt = z13952.toInt)
        refine t_ist X hT mb13946 gb13946 rfl (by omega) (show (-2147483648) ≤ (z13953 : Int32).toInt ∧ (z13953 : Int32).toInt ≤ 2147483647 from (by omega)) dX0_goRound_62 (fun F H locs hT v13954 h1v13954 h2v13954 => ?_)
        have hv13945 := (h2v13954 _ _).trans hv13945
        have hfr : ∀ b j : Nat, fld F b j = fld Fo b j := fun b j  => (h2v13954 b j).trans (hfr b j )
        obtain ⟨z13955, ez13955⟩ : ∃ y : Int32, y = z13937 + 1 := ⟨_, rfl⟩
        have hz13955 : z13955.toInt = z13937.toInt + 1 := ar_add ez13955 rfl (by decide : (1 : Int32).toInt = 1) (by omega) (by omega)
        refine lv_iinc (v := z13955) (lv' := [(3, .int z13955), (4, .int z13944), (0, .ref p0), (1, .int p1), (2, .int z13936)]) hx hb dX0_goRound_63 hl (k := 4) rfl (by rw [ez13955]; rfl) (by decide) rfl (fun ls hl => ?_)
        refine lv_goto (tgt := 21) hx hb dX0_goRound_66 (by decide) ?_
        exact ih21 z13936 z13955 _ _ _ _ (by omega) (by omega) (by omega) hT hfr  (lv_sub hl [2, 3, 4, 0] rfl)
  refine lv_bipush (v := 8) hx hb dX0_goRound_0 (by decide) ?_
  refine lv_iload_n hx hb dX0_goRound_2 rfl (lv_at hl 1 rfl) ?_
  refine lv_imul hx hb dX0_goRound_3 ?_
  refine lv_topi (fun z13956 ez13956 => ?_)
  have rz13956 := rg_all z13956
  refine lv_aload_n hx hb dX0_goRound_4 rfl (lv_at hl 0 rfl) ?_
  refine t_get (C := RX0) (T := TX0) (N := 2) X hT m0 g0 rfl rfl 0 (by decide) qw_88 inlX0 rfl dX0_goRound_5 (fun v13957 hv13957 ov13957 => ?_)
  obtain ⟨b13958, rfl, mb13958, gb13958⟩ := okV_r ov13957
  have gb13958 : tag b13958 = 12 := tg_of gb13958
  refine t_alen X hT mb13958 gb13958 rfl (by decide) dX0_goRound_8 ?_
  refine lv_topi (fun z13959 ez13959 => ?_)
  obtain rfl : z13959 = 48 := ez13959.trans (by rfl)
  refine t_mmin X hl qw_1017 qw_1018 qw_850 qw_1019 (Nat.le_of_ble_eq_true rfl) (Nat.le_of_ble_eq_true rfl) (Nat.le_of_ble_eq_true rfl) (Nat.le_of_ble_eq_true rfl) dX0_goRound_9 (fun z13960 ez13960 => ?_)
  have hz13960 := mmin_e ez13960 (rfl : z13956.toInt = z13956.toInt) (by decide : (48 : Int32).toInt = 48)
  refine lv_istore_n (lv' := [(2, .int z13960), (0, .ref p0), (1, .int p1)]) hx hb dX0_goRound_12 rfl hl (by decide) rfl (fun ls hl => ?_)
  refine lv_iload_n hx hb dX0_goRound_13 rfl (lv_at hl 0 rfl) ?_
  refine lv_iconst (v := 1) hx hb dX0_goRound_14 (by decide) ?_
  refine lv_icmp_ge (tgt := 19) hx hb dX0_goRound_15 (by decide) (fun c13961 => ?_) (fun c13961 => ?_)
  · have w13962 := cv_le (by decide : (1 : Int32).toInt = 1) (rfl : z13960.toInt = z13960.toInt) c13961
    refine lv_iconst (v := 0) hx hb dX0_goRound_19 (by decide) ?_
    refine lv_istore_n (lv' := [(3, .int 0), (2, .int z13960), (0, .ref p0), (1, .int p1)]) hx hb dX0_goRound_20 rfl hl (by decide) rfl (fun ls hl => ?_)
    have kk13963 : (0 : Int32).toInt = 0 := by decide
    exact K21 97 z13960 0 _ _ _ _ (by omega) (by omega) (by decide) hT hfr  (lv_sub hl [2, 3, 1, 0] rfl)
  · have w13964 := cv_nle (by decide : (1 : Int32).toInt = 1) (rfl : z13960.toInt = z13960.toInt) c13961
    exact t_vret hQ X hT hfr (Nat.le_of_ble_eq_true rfl) (Nat.le_of_ble_eq_true rfl) dX0_goRound_18
