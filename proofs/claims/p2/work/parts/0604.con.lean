set_option maxHeartbeats 4000000 in
set_option maxRecDepth 100000 in
theorem kt326_X6_isMet (l : Launch) (G : KG) (tag : Nat → Nat) (L : List Nat) (F : Nat → va_E) (ho : okT G ttC tag L F) (p0 : Nat) (p1 : Nat) (p2 : Int32) (p3 : Int32) (m0 : p0 ∈ L) (g0 : tag p0 = 18) (m1 : p1 ∈ L) (g1 : tag p1 = 19) (h2 : 0 ≤ p2.toInt ∧ p2.toInt ≤ 3) (h3 : 0 ≤ p3.toInt ∧ p3.toInt ≤ 3) : TMi l yX6_isMet cX6_isMet 7 (some .boolean) { frames := 1, cells := 0, slots := 0, locals := 13 } G ttC tag L F [.ref p0, .ref p1, .int p2, .int p3] (fun r F1 => F1 = F ∧ (0 ≤ r.toInt ∧ r.toInt ≤ 1)) := by
  refine t_bodyi (y := yX6_isMet) (cd := cX6_isMet) (mL := 7) (rt := (some .boolean)) (rm := { frames := 1, cells := 0, slots := 0, locals := 13 }) (av := [.ref p0, .ref p1, .int p2, .int p3]) (by decide) (Nat.le_of_ble_eq_true rfl) ho ?_
  intro p e s m args below meth c ls A Q hQ X hT hl
  have hx := X.1.1
  have hb := X.1.2.1
  have hl : lv_has ls 7 [(0, .ref p0), (1, .ref p1), (2, .int p2), (3, .int p3)] := hl
  refine lv_aload_n hx hb dX6_isMet_0 rfl (lv_at hl 1 rfl) ?_
  refine t_get (C := RX7) (T := TX7) (N := 7) X hT m1 g1 rfl rfl 2 (by decide) qw_383 inlX7 rfl dX6_isMet_1 (fun v94406 hv94406 ov94406 => ?_)
  obtain ⟨b94407, rfl, mb94407, gb94407⟩ := okV_r ov94406
  have gb94407 : tag b94407 = 8 := tg_of gb94407
  refine lv_iload_n hx hb dX6_isMet_4 rfl (lv_at hl 2 rfl) ?_
  refine t_ild X hT mb94407 gb94407 rfl (by omega) dX6_isMet_5 (fun z94408 vz94408 rz94408 => ?_)
  have rz94408 : 0 ≤ z94408.toInt ∧ z94408.toInt ≤ 6 := rz94408
  refine lv_aload_n hx hb dX6_isMet_6 rfl (lv_at hl 1 rfl) ?_
  refine t_get (C := RX7) (T := TX7) (N := 7) X hT m1 g1 rfl rfl 2 (by decide) qw_383 inlX7 rfl dX6_isMet_7 (fun v94409 hv94409 ov94409 => ?_)
  obtain rfl : v94409 = .ref b94407 := hv94409.symm.trans hv94406
  refine lv_iload_n hx hb dX6_isMet_10 rfl (lv_at hl 3 rfl) ?_
  refine t_ild X hT mb94407 gb94407 rfl (by omega) dX6_isMet_11 (fun z94410 vz94410 rz94410 => ?_)
  have rz94410 : 0 ≤ z94410.toInt ∧ z94410.toInt ≤ 6 := rz94410
  refine lv_iadd hx hb dX6_isMet_12 ?_
  refine lv_topi (fun z94411 ez94411 => ?_)
  have hz94411 : z94411.toInt = z94408.toInt + z94410.toInt := ar_add ez94411 (rfl : z94408.toInt = z94408.toInt) (rfl : z94410.toInt = z94410.toInt) (by omega) (by omega)
  have rz94411 : 0 ≤ z94411.toInt ∧ z94411.toInt ≤ 12 := by omega
  refine lv_istore (lv' := [(4, .int z94411), (0, .ref p0), (1, .ref p1), (2, .int p2), (3, .int p3)]) hx hb dX6_isMet_13 hl (by decide) rfl (fun ls hl => ?_)
  refine lv_aload_n hx hb dX6_isMet_15 rfl (lv_at hl 1 rfl) ?_
  refine t_get (C := RX1) (T := TX1) (N := 20) X hT m0 g0 rfl rfl 11 (by decide) qw_405 inlX1 rfl dX6_isMet_16 (fun v94412 hv94412 ov94412 => ?_)
  obtain ⟨b94413, rfl, mb94413, gb94413⟩ := okV_r ov94412
  have gb94413 : tag b94413 = 4 := tg_of gb94413
  refine lv_iload_n hx hb dX6_isMet_19 rfl (lv_at hl 3 rfl) ?_
  refine t_ild X hT mb94413 gb94413 rfl (by omega) dX6_isMet_20 (fun z94414 vz94414 rz94414 => ?_)
  have rz94414 : 0 ≤ z94414.toInt ∧ z94414.toInt ≤ 11 := rz94414
  refine lv_aload_n hx hb dX6_isMet_21 rfl (lv_at hl 1 rfl) ?_
  refine t_get (C := RX1) (T := TX1) (N := 20) X hT m0 g0 rfl rfl 11 (by decide) qw_405 inlX1 rfl dX6_isMet_22 (fun v94415 hv94415 ov94415 => ?_)
  obtain rfl : v94415 = .ref b94413 := hv94415.symm.trans hv94412
  refine lv_iload_n hx hb dX6_isMet_25 rfl (lv_at hl 4 rfl) ?_
  refine t_ild X hT mb94413 gb94413 rfl (by omega) dX6_isMet_26 (fun z94416 vz94416 rz94416 => ?_)
  have rz94416 : 0 ≤ z94416.toInt ∧ z94416.toInt ≤ 11 := rz94416
  refine lv_isub hx hb dX6_isMet_27 ?_
  refine lv_topi (fun z94417 ez94417 => ?_)
  have hz94417 : z94417.toInt = z94414.toInt - z94416.toInt := ar_sub ez94417 (rfl : z94414.toInt = z94414.toInt) (rfl : z94416.toInt = z94416.toInt) (by omega) (by omega)
  have rz94417 : (-11) ≤ z94417.toInt ∧ z94417.toInt ≤ 11 := by omega
  refine t_mabs X hl qw_1200 qw_1201 qw_850 qw_1202 (Nat.le_of_ble_eq_true rfl) (Nat.le_of_ble_eq_true rfl) (Nat.le_of_ble_eq_true rfl) (Nat.le_of_ble_eq_true rfl) dX6_isMet_28 (fun z94418 ez94418 => ?_)
  have hz94418 := mabs_e ez94418 (rfl : z94417.toInt = z94417.toInt) (by omega)
  refine lv_istore (lv' := [(5, .int z94418), (4, .int z94411), (0, .ref p0), (1, .ref p1), (2, .int p2), (3, .int p3)]) hx hb dX6_isMet_31 hl (by decide) rfl (fun ls hl => ?_)
  refine lv_aload_n hx hb dX6_isMet_33 rfl (lv_at hl 2 rfl) ?_
  refine t_get (C := RX1) (T := TX1) (N := 20) X hT m0 g0 rfl rfl 12 (by decide) qw_406 inlX1 rfl dX6_isMet_34 (fun v94419 hv94419 ov94419 => ?_)
  obtain ⟨b94420, rfl, mb94420, gb94420⟩ := okV_r ov94419
  have gb94420 : tag b94420 = 4 := tg_of gb94420
  refine lv_iload_n hx hb dX6_isMet_37 rfl (lv_at hl 4 rfl) ?_
  refine t_ild X hT mb94420 gb94420 rfl (by omega) dX6_isMet_38 (fun z94421 vz94421 rz94421 => ?_)
  have rz94421 : 0 ≤ z94421.toInt ∧ z94421.toInt ≤ 11 := rz94421
  refine lv_aload_n hx hb dX6_isMet_39 rfl (lv_at hl 2 rfl) ?_
  refine t_get (C := RX1) (T := TX1) (N := 20) X hT m0 g0 rfl rfl 12 (by decide) qw_406 inlX1 rfl dX6_isMet_40 (fun v94422 hv94422 ov94422 => ?_)
  obtain rfl : v94422 = .ref b94420 := hv94422.symm.trans hv94419
  refine lv_iload_n hx hb dX6_isMet_43 rfl (lv_at hl 5 rfl) ?_
  refine t_ild X hT mb94420 gb94420 rfl (by omega) dX6_isMet_44 (fun z94423 vz94423 rz94423 => ?_)
  have rz94423 : 0 ≤ z94423.toInt ∧ z94423.toInt ≤ 11 := rz94423
  refine lv_isub hx hb dX6_isMet_45 ?_
  refine lv_topi (fun z94424 ez94424 => ?_)
  have hz94424 : z94424.toInt = z94421.toInt - z94423.toInt := ar_sub ez94424 (rfl : z94421.toInt = z94421.toInt) (rfl : z94423.toInt = z94423.toInt) (by omega) (by omega)
  have rz94424 : (-11) ≤ z94424.toInt ∧ z94424.toInt ≤ 11 := by omega
  refine t_mabs X hl qw_1200 qw_1201 qw_850 qw_1202 (Nat.le_of_ble_eq_true rfl) (Nat.le_of_ble_eq_true rfl) (Nat.le_of_ble_eq_true rfl) (Nat.le_of_ble_eq_true rfl) dX6_isMet_46 (fun z94425 ez94425 => ?_)
  have hz94425 := mabs_e ez94425 (rfl : z94424.toInt = z94424.toInt) (by omega)
  refine lv_istore (lv' := [(6, .int z94425), (5, .int z94418), (4, .int z94411), (0, .ref p0), (1, .ref p1), (2, .int p2), (3, .int p3)]) hx hb dX6_isMet_49 hl (by decide) rfl (fun ls hl => ?_)
  refine lv_iload hx hb dX6_isMet_51 (lv_at hl 1 rfl) ?_
  refine lv_iload hx hb dX6_isMet_53 (lv_at hl 0 rfl) ?_
  refine t_mmax X hl qw_1203 qw_849 qw_850 qw_851 (Nat.le_of_ble_eq_true rfl) (Nat.le_of_ble_eq_true rfl) (Nat.le_of_ble_eq_true rfl) (Nat.le_of_ble_eq_true rfl) dX6_isMet_55 (fun z94426 ez94426 => ?_)
  have hz94426 := mmax_e ez94426 (rfl : z94418.toInt = z94418.toInt) (rfl : z94425.toInt = z94425.toInt)
  refine lv_iload hx hb dX6_isMet_58 (lv_at hl 2 rfl) ?_
  refine lv_iconst (v := 1) hx hb dX6_isMet_60 (by decide) ?_
  refine lv_iadd hx hb dX6_isMet_61 ?_
  refine lv_topi (fun z94427 ez94427 => ?_)
  have hz94427 : z94427.toInt = z94411.toInt + 1 := ar_add ez94427 (rfl : z94411.toInt = z94411.toInt) (by decide : (1 : Int32).toInt = 1) (by omega) (by omega)
  have rz94427 : 1 ≤ z94427.toInt ∧ z94427.toInt ≤ 13 := by omega
  refine lv_icmp_gt (tgt := 81) hx hb dX6_isMet_62 (by decide) (fun c94428 => ?_) (fun c94428 => ?_)
  · have w94429 := cv_lt (rfl : z94427.toInt = z94427.toInt) (rfl : z94426.toInt = z94426.toInt) c94428
    refine lv_iconst (v := 0) hx hb dX6_isMet_81 (by decide) ?_
    exact t_zret hQ X hT (by decide) (⟨rfl, (by decide)⟩) (Nat.le_of_ble_eq_true rfl) (Nat.le_of_ble_eq_true rfl) dX6_isMet_82
  · have w94430 := cv_nlt (rfl : z94427.toInt = z94427.toInt) (rfl : z94426.toInt = z94426.toInt) c94428
    refine lv_iload hx hb dX6_isMet_65 (lv_at hl 1 rfl) ?_
    refine lv_iload hx hb dX6_isMet_67 (lv_at hl 0 rfl) ?_
    refine t_mmin X hl qw_1204 qw_1018 qw_850 qw_1019 (Nat.le_of_ble_eq_true rfl) (Nat.le_of_ble_eq_true rfl) (Nat.le_of_ble_eq_true rfl) (Nat.le_of_ble_eq_true rfl) dX6_isMet_69 (fun z94431 ez94431 => ?_)
    have hz94431 := mmin_e ez94431 (rfl : z94418.toInt = z94418.toInt) (rfl : z94425.toInt = z94425.toInt)
    refine lv_iload hx hb dX6_isMet_72 (lv_at hl 2 rfl) ?_
    refine lv_icmp_gt (tgt := 81) hx hb dX6_isMet_74 (by decide) (fun c94432 => ?_) (fun c94432 => ?_)
    · have w94433 := cv_lt (rfl : z94411.toInt = z94411.toInt) (rfl : z94431.toInt = z94431.toInt) c94432
      refine lv_iconst (v := 0) hx hb dX6_isMet_81 (by decide) ?_
      exact t_zret hQ X hT (by decide) (⟨rfl, (by decide)⟩) (Nat.le_of_ble_eq_true rfl) (Nat.le_of_ble_eq_true rfl) dX6_isMet_82
    · have w94434 := cv_nlt (rfl : z94411.toInt = z94411.toInt) (rfl : z94431.toInt = z94431.toInt) c94432
      refine lv_iconst (v := 1) hx hb dX6_isMet_77 (by decide) ?_
      refine lv_goto (tgt := 82) hx hb dX6_isMet_78 (by decide) ?_
      exact t_zret hQ X hT (by decide) (⟨rfl, (by decide)⟩) (Nat.le_of_ble_eq_true rfl) (Nat.le_of_ble_eq_true rfl) dX6_isMet_82
set_option maxHeartbeats 4000000 in
set_option maxRecDepth 100000 in
theorem kt327_X6_priceOf (l : Launch) (G : KG) (tag : Nat → Nat) (L : List Nat) (F : Nat → va_E) (ho : okT G ttC tag L F) (p0 : Nat) (p1 : Nat) (p2 : Int32) (p3 : Int32) (m0 : p0 ∈ L) (g0 : tag p0 = 18) (m1 : p1 ∈ L) (g1 : tag p1 = 19) (h2 : 0 ≤ p2.toInt ∧ p2.toInt ≤ 3) : TMi l yX6_priceOf cX6_priceOf 4 (some .int) { frames := 1, cells := 0, slots := 0, locals := 23 } G ttC tag L F [.ref p0, .ref p1, .int p2, .int p3] (fun r F1 => F1 = F ∧ ((-2147483648) ≤ r.toInt ∧ r.toInt ≤ 2147483647)) := by
  refine t_bodyi (y := yX6_priceOf) (cd := cX6_priceOf) (mL := 4) (rt := (some .int)) (rm := { frames := 1, cells := 0, slots := 0, locals := 23 }) (av := [.ref p0, .ref p1, .int p2, .int p3]) (by decide) (Nat.le_of_ble_eq_true rfl) ho ?_
  intro p e s m args below meth c ls A Q hQ X hT hl
  have hx := X.1.1
  have hb := X.1.2.1
  have hl : lv_has ls 4 [(0, .ref p0), (1, .ref p1), (2, .int p2), (3, .int p3)] := hl
  have rp3 := rg_all p3
  refine lv_aload_n hx hb dX6_priceOf_0 rfl (lv_at hl 0 rfl) ?_
  refine lv_iload_n hx hb dX6_priceOf_1 rfl (lv_at hl 3 rfl) ?_
  refine lv_iconst (v := 1) hx hb dX6_priceOf_2 (by decide) ?_
  refine t_cVi (n := 2) (C := RX1) (T := TX1) (N := 20) (As := [.int p3, .int 1]) (rest := []) X hT (kt303_X1_stonePart l G tag L F hT.2.2.2 p0 p3 1 m0 g0) m0 g0 rfl rfl qw_962 qw_858 qw_859 qw_17 qw_860 ⟨rfl, by decide +kernel, by decide +kernel, by decide +kernel⟩ ⟨Nat.le_of_ble_eq_true rfl, Nat.le_of_ble_eq_true rfl⟩ hl rfl rfl (Nat.le_of_ble_eq_true rfl) dX6_priceOf_3 ⟨Nat.le_of_ble_eq_true rfl, Nat.le_of_ble_eq_true rfl⟩ (fun z94512 F9 H locs hT hz94512 => ?_)
  obtain ⟨fz94512, hz94512⟩ := hz94512
  rw [fz94512] at hT
  refine lv_bipush (v := 8) hx hb dX6_priceOf_6 (by decide) ?_
  refine lv_imul hx hb dX6_priceOf_8 ?_
  refine lv_topi (fun z94513 ez94513 => ?_)
  have rz94513 := rg_all z94513
  refine lv_aload_n hx hb dX6_priceOf_9 rfl (lv_at hl 1 rfl) ?_
  refine t_get (C := RX7) (T := TX7) (N := 7) X hT m1 g1 rfl rfl 2 (by decide) qw_383 inlX7 rfl dX6_priceOf_10 (fun v94514 hv94514 ov94514 => ?_)
  obtain ⟨b94515, rfl, mb94515, gb94515⟩ := okV_r ov94514
  have gb94515 : tag b94515 = 8 := tg_of gb94515
  refine lv_iload_n hx hb dX6_priceOf_13 rfl (lv_at hl 2 rfl) ?_
  refine t_ild X hT mb94515 gb94515 rfl (by omega) dX6_priceOf_14 (fun z94516 vz94516 rz94516 => ?_)
  have rz94516 : 0 ≤ z94516.toInt ∧ z94516.toInt ≤ 6 := rz94516
  refine lv_iconst (v := 1) hx hb dX6_priceOf_15 (by decide) ?_
  refine lv_iadd hx hb dX6_priceOf_16 ?_
  refine lv_topi (fun z94517 ez94517 => ?_)
  have hz94517 : z94517.toInt = z94516.toInt + 1 := ar_add ez94517 (rfl : z94516.toInt = z94516.toInt) (by decide : (1 : Int32).toInt = 1) (by omega) (by omega)
  have rz94517 : 1 ≤ z94517.toInt ∧ z94517.toInt ≤ 7 := by omega
  refine lv_imul hx hb dX6_priceOf_17 ?_
  refine lv_topi (fun z94518 ez94518 => ?_)
  have rz94518 := rg_all z94518
  exact t_iret hQ X hT (⟨rfl, rg_all _⟩) (Nat.le_of_ble_eq_true rfl) (Nat.le_of_ble_eq_true rfl) dX6_priceOf_18
set_option maxHeartbeats 4000000 in
set_option maxRecDepth 100000 in
theorem kt328_X0_byDoor (l : Launch) (G : KG) (tag : Nat → Nat) (L : List Nat) (F : Nat → va_E) (ho : okT G ttC tag L F) (p0 : Nat) (p1 : Int32) (p2 : Int32) (m0 : p0 ∈ L) (g0 : tag p0 = 19) : TMi l yX0_byDoor cX0_byDoor 3 (some .int) { frames := 3, cells := 0, slots := 0, locals := 68 } G ttC tag L F [.ref p0, .int p1, .int p2] (fun r F1 => F1 = F ∧ ((-2147483648) ≤ r.toInt ∧ r.toInt ≤ 2147483647)) := by
  refine t_bodyi (y := yX0_byDoor) (cd := cX0_byDoor) (mL := 3) (rt := (some .int)) (rm := { frames := 3, cells := 0, slots := 0, locals := 68 }) (av := [.ref p0, .int p1, .int p2]) (by decide) (Nat.le_of_ble_eq_true rfl) ho ?_
  intro p e s m args below meth c ls A Q hQ X hT hl
  have hx := X.1.1
  have hb := X.1.2.1
  have hl : lv_has ls 3 [(0, .ref p0), (1, .int p1), (2, .int p2)] := hl
  have rp1 := rg_all p1
  have rp2 := rg_all p2
  refine lv_aload_n hx hb dX0_byDoor_0 rfl (lv_at hl 0 rfl) ?_
  refine lv_iload_n hx hb dX0_byDoor_1 rfl (lv_at hl 1 rfl) ?_
  refine lv_iload_n hx hb dX0_byDoor_2 rfl (lv_at hl 2 rfl) ?_
  refine t_cVi (n := 2) (C := RX7) (T := TX7) (N := 7) (As := [.int p1, .int p2]) (rest := []) X hT (kt312_X7_stands l G tag L F hT.2.2.2 p0 p1 p2 m0 g0) m0 g0 rfl rfl qw_1028 qw_853 qw_854 qw_22 qw_855 ⟨rfl, by decide +kernel, by decide +kernel, by decide +kernel⟩ ⟨Nat.le_of_ble_eq_true rfl, Nat.le_of_ble_eq_true rfl⟩ hl rfl rfl (Nat.le_of_ble_eq_true rfl) dX0_byDoor_3 ⟨Nat.le_of_ble_eq_true rfl, Nat.le_of_ble_eq_true rfl⟩ (fun z94640 F9 H locs hT hz94640 => ?_)
  obtain ⟨fz94640, hz94640⟩ := hz94640
  rw [fz94640] at hT
  refine lv_if_ne (tgt := 12) hx hb dX0_byDoor_6 (by decide) (fun c94641 => ?_) (fun c94641 => ?_)
  · have w94642 := cv_ne (rfl : z94640.toInt = z94640.toInt) (by decide : (0 : Int32).toInt = 0) c94641
    refine lv_aload_n hx hb dX0_byDoor_12 rfl (lv_at hl 0 rfl) ?_
    refine lv_iload_n hx hb dX0_byDoor_13 rfl (lv_at hl 1 rfl) ?_
    refine lv_iload_n hx hb dX0_byDoor_14 rfl (lv_at hl 2 rfl) ?_
    refine t_cVi (n := 2) (C := RX7) (T := TX7) (N := 7) (As := [.int p1, .int p2]) (rest := []) X hT (kt313_X7_isOpen l G tag L F hT.2.2.2 p0 p1 p2 m0 g0) m0 g0 rfl rfl qw_1029 qw_984 qw_985 qw_22 qw_986 ⟨rfl, by decide +kernel, by decide +kernel, by decide +kernel⟩ ⟨Nat.le_of_ble_eq_true rfl, Nat.le_of_ble_eq_true rfl⟩ hl rfl rfl (Nat.le_of_ble_eq_true rfl) dX0_byDoor_15 ⟨Nat.le_of_ble_eq_true rfl, Nat.le_of_ble_eq_true rfl⟩ (fun z94643 F9 H locs hT hz94643 => ?_)
    obtain ⟨fz94643, hz94643⟩ := hz94643
    rw [fz94643] at hT
    refine lv_if_ne (tgt := 25) hx hb dX0_byDoor_18 (by decide) (fun c94644 => ?_) (fun c94644 => ?_)
    · have w94645 := cv_ne (rfl : z94643.toInt = z94643.toInt) (by decide : (0 : Int32).toInt = 0) c94644
      refine lv_aload_n hx hb dX0_byDoor_25 rfl (lv_at hl 0 rfl) ?_
      refine lv_iload_n hx hb dX0_byDoor_26 rfl (lv_at hl 1 rfl) ?_
      refine lv_iload_n hx hb dX0_byDoor_27 rfl (lv_at hl 2 rfl) ?_
      refine lv_iconst (v := 3) hx hb dX0_byDoor_28 (by decide) ?_
      refine t_cVi (n := 3) (C := RX7) (T := TX7) (N := 7) (As := [.int p1, .int p2, .int 3]) (rest := []) X hT (kt309_X7_partOf l G tag L F hT.2.2.2 p0 p1 p2 3 m0 g0) m0 g0 rfl rfl qw_1030 qw_778 qw_779 qw_22 qw_780 ⟨rfl, by decide +kernel, by decide +kernel, by decide +kernel⟩ ⟨Nat.le_of_ble_eq_true rfl, Nat.le_of_ble_eq_true rfl⟩ hl rfl rfl (Nat.le_of_ble_eq_true rfl) dX0_byDoor_29 ⟨Nat.le_of_ble_eq_true rfl, Nat.le_of_ble_eq_true rfl⟩ (fun z94646 F9 H locs hT hz94646 => ?_)
      obtain ⟨fz94646, hz94646⟩ := hz94646
      rw [fz94646] at hT
      refine lv_iconst (v := 1) hx hb dX0_byDoor_32 (by decide) ?_
      refine lv_iadd hx hb dX0_byDoor_33 ?_
      refine lv_topi (fun z94647 ez94647 => ?_)
      have rz94647 := rg_all z94647
      refine lv_bipush (v := 8) hx hb dX0_byDoor_34 (by decide) ?_
      refine lv_imul hx hb dX0_byDoor_36 ?_
      refine lv_topi (fun z94648 ez94648 => ?_)
      have rz94648 := rg_all z94648
      exact t_iret hQ X hT (⟨rfl, rg_all _⟩) (Nat.le_of_ble_eq_true rfl) (Nat.le_of_ble_eq_true rfl) dX0_byDoor_37
    · have w94649 := cv_eq (rfl : z94643.toInt = z94643.toInt) (by decide : (0 : Int32).toInt = 0) c94644
      refine lv_sipush (v := 160) hx hb dX0_byDoor_21 (by decide) ?_
      exact t_iret hQ X hT (⟨rfl, rg_all _⟩) (Nat.le_of_ble_eq_true rfl) (Nat.le_of_ble_eq_true rfl) dX0_byDoor_24
  · have w94650 := cv_eq (rfl : z94640.toInt = z94640.toInt) (by decide : (0 : Int32).toInt = 0) c94641
    refine lv_bipush (v := 8) hx hb dX0_byDoor_9 (by decide) ?_
    exact t_iret hQ X hT (⟨rfl, rg_all _⟩) (Nat.le_of_ble_eq_true rfl) (Nat.le_of_ble_eq_true rfl) dX0_byDoor_11
set_option maxHeartbeats 4000000 in
set_option maxRecDepth 100000 in
theorem kt329_X0_byWall (l : Launch) (G : KG) (tag : Nat → Nat) (L : List Nat) (F : Nat → va_E) (ho : okT G ttC tag L F) (p0 : Nat) (p1 : Nat) (p2 : Int32) (p3 : Int32) (m0 : p0 ∈ L) (g0 : tag p0 = 18) (m1 : p1 ∈ L) (g1 : tag p1 = 19) : TMi l yX0_byWall cX0_byWall 5 (some .int) { frames := 3, cells := 0, slots := 0, locals := 68 } G ttC tag L F [.ref p0, .ref p1, .int p2, .int p3] (fun r F1 => F1 = F ∧ ((-2147483648) ≤ r.toInt ∧ r.toInt ≤ 2147483647)) := by
  refine t_bodyi (y := yX0_byWall) (cd := cX0_byWall) (mL := 5) (rt := (some .int)) (rm := { frames := 3, cells := 0, slots := 0, locals := 68 }) (av := [.ref p0, .ref p1, .int p2, .int p3]) (by decide) (Nat.le_of_ble_eq_true rfl) ho ?_
  intro p e s m args below meth c ls A Q hQ X hT hl
  have hx := X.1.1
  have hb := X.1.2.1
  have hl : lv_has ls 5 [(0, .ref p0), (1, .ref p1), (2, .int p2), (3, .int p3)] := hl
  have rp2 := rg_all p2
  have rp3 := rg_all p3
  refine lv_aload_n hx hb dX0_byWall_0 rfl (lv_at hl 1 rfl) ?_
  refine lv_iload_n hx hb dX0_byWall_1 rfl (lv_at hl 2 rfl) ?_
  refine lv_iload_n hx hb dX0_byWall_2 rfl (lv_at hl 3 rfl) ?_
  refine t_cVi (n := 2) (C := RX7) (T := TX7) (N := 7) (As := [.int p2, .int p3]) (rest := []) X hT (kt312_X7_stands l G tag L F hT.2.2.2 p1 p2 p3 m1 g1) m1 g1 rfl rfl qw_1028 qw_853 qw_854 qw_22 qw_855 ⟨rfl, by decide +kernel, by decide +kernel, by decide +kernel⟩ ⟨Nat.le_of_ble_eq_true rfl, Nat.le_of_ble_eq_true rfl⟩ hl rfl rfl (Nat.le_of_ble_eq_true rfl) dX0_byWall_3 ⟨Nat.le_of_ble_eq_true rfl, Nat.le_of_ble_eq_true rfl⟩ (fun z94816 F9 H locs hT hz94816 => ?_)
  obtain ⟨fz94816, hz94816⟩ := hz94816
  rw [fz94816] at hT
  refine lv_if_ne (tgt := 12) hx hb dX0_byWall_6 (by decide) (fun c94817 => ?_) (fun c94817 => ?_)
  · have w94818 := cv_ne (rfl : z94816.toInt = z94816.toInt) (by decide : (0 : Int32).toInt = 0) c94817
    refine lv_aload_n hx hb dX0_byWall_12 rfl (lv_at hl 1 rfl) ?_
    refine lv_iload_n hx hb dX0_byWall_13 rfl (lv_at hl 2 rfl) ?_
    refine lv_iload_n hx hb dX0_byWall_14 rfl (lv_at hl 3 rfl) ?_
    refine t_cVi (n := 2) (C := RX7) (T := TX7) (N := 7) (As := [.int p2, .int p3]) (rest := []) X hT (kt313_X7_isOpen l G tag L F hT.2.2.2 p1 p2 p3 m1 g1) m1 g1 rfl rfl qw_1029 qw_984 qw_985 qw_22 qw_986 ⟨rfl, by decide +kernel, by decide +kernel, by decide +kernel⟩ ⟨Nat.le_of_ble_eq_true rfl, Nat.le_of_ble_eq_true rfl⟩ hl rfl rfl (Nat.le_of_ble_eq_true rfl) dX0_byWall_15 ⟨Nat.le_of_ble_eq_true rfl, Nat.le_of_ble_eq_true rfl⟩ (fun z94819 F9 H locs hT hz94819 => ?_)
    obtain ⟨fz94819, hz94819⟩ := hz94819
    rw [fz94819] at hT
    refine lv_if_ne (tgt := 25) hx hb dX0_byWall_18 (by decide) (fun c94820 => ?_) (fun c94820 => ?_)
    · have w94821 := cv_ne (rfl : z94819.toInt = z94819.toInt) (by decide : (0 : Int32).toInt = 0) c94820
      refine lv_aload_n hx hb dX0_byWall_25 rfl (lv_at hl 0 rfl) ?_
      refine lv_aload_n hx hb dX0_byWall_26 rfl (lv_at hl 1 rfl) ?_
      refine lv_iload_n hx hb dX0_byWall_27 rfl (lv_at hl 2 rfl) ?_
      refine lv_iload_n hx hb dX0_byWall_28 rfl (lv_at hl 3 rfl) ?_
      refine lv_iconst (v := 0) hx hb dX0_byWall_29 (by decide) ?_
      refine t_cVi (n := 3) (C := RX7) (T := TX7) (N := 7) (As := [.int p2, .int p3, .int 0]) (rest := [.ref p0]) X hT (kt309_X7_partOf l G tag L F hT.2.2.2 p1 p2 p3 0 m1 g1) m1 g1 rfl rfl qw_1030 qw_778 qw_779 qw_22 qw_780 ⟨rfl, by decide +kernel, by decide +kernel, by decide +kernel⟩ ⟨Nat.le_of_ble_eq_true rfl, Nat.le_of_ble_eq_true rfl⟩ hl rfl rfl (Nat.le_of_ble_eq_true rfl) dX0_byWall_30 ⟨Nat.le_of_ble_eq_true rfl, Nat.le_of_ble_eq_true rfl⟩ (fun z94822 F9 H locs hT hz94822 => ?_)
      obtain ⟨fz94822, hz94822⟩ := hz94822
      rw [fz94822] at hT
      refine lv_iconst (v := 4) hx hb dX0_byWall_33 (by decide) ?_
      refine t_cVi (n := 2) (C := RX1) (T := TX1) (N := 20) (As := [.int z94822, .int 4]) (rest := []) X hT (kt303_X1_stonePart l G tag L F hT.2.2.2 p0 z94822 4 m0 g0) m0 g0 rfl rfl qw_1035 qw_858 qw_859 qw_17 qw_860 ⟨rfl, by decide +kernel, by decide +kernel, by decide +kernel⟩ ⟨Nat.le_of_ble_eq_true rfl, Nat.le_of_ble_eq_true rfl⟩ hl rfl rfl (Nat.le_of_ble_eq_true rfl) dX0_byWall_34 ⟨Nat.le_of_ble_eq_true rfl, Nat.le_of_ble_eq_true rfl⟩ (fun z94823 F9 H locs hT hz94823 => ?_)
      obtain ⟨fz94823, hz94823⟩ := hz94823
      rw [fz94823] at hT
      refine lv_istore (lv' := [(4, .int z94823), (0, .ref p0), (1, .ref p1), (2, .int p2), (3, .int p3)]) hx hb dX0_byWall_37 hl (by decide) rfl (fun ls hl => ?_)
      refine lv_iconst (v := 1) hx hb dX0_byWall_39 (by decide) ?_
      refine lv_iload hx hb dX0_byWall_40 (lv_at hl 0 rfl) ?_
      refine lv_aload_n hx hb dX0_byWall_42 rfl (lv_at hl 2 rfl) ?_
      refine lv_iload_n hx hb dX0_byWall_43 rfl (lv_at hl 3 rfl) ?_
      refine lv_iload_n hx hb dX0_byWall_44 rfl (lv_at hl 4 rfl) ?_
      refine lv_iconst (v := 4) hx hb dX0_byWall_45 (by decide) ?_
      refine t_cVi (n := 3) (C := RX7) (T := TX7) (N := 7) (As := [.int p2, .int p3, .int 4]) (rest := [.int z94823, .int 1]) X hT (kt309_X7_partOf l G tag L F hT.2.2.2 p1 p2 p3 4 m1 g1) m1 g1 rfl rfl qw_1030 qw_778 qw_779 qw_22 qw_780 ⟨rfl, by decide +kernel, by decide +kernel, by decide +kernel⟩ ⟨Nat.le_of_ble_eq_true rfl, Nat.le_of_ble_eq_true rfl⟩ hl rfl rfl (Nat.le_of_ble_eq_true rfl) dX0_byWall_46 ⟨Nat.le_of_ble_eq_true rfl, Nat.le_of_ble_eq_true rfl⟩ (fun z94824 F9 H locs hT hz94824 => ?_)
      obtain ⟨fz94824, hz94824⟩ := hz94824
      rw [fz94824] at hT
      refine lv_isub hx hb dX0_byWall_49 ?_
      refine lv_topi (fun z94825 ez94825 => ?_)
      have rz94825 := rg_all z94825
      refine t_mmax X hl qw_1034 qw_849 qw_850 qw_851 (Nat.le_of_ble_eq_true rfl) (Nat.le_of_ble_eq_true rfl) (Nat.le_of_ble_eq_true rfl) (Nat.le_of_ble_eq_true rfl) dX0_byWall_50 (fun z94826 ez94826 => ?_)
      have hz94826 := mmax_e ez94826 (by decide : (1 : Int32).toInt = 1) (rfl : z94825.toInt = z94825.toInt)
      refine lv_bipush (v := 8) hx hb dX0_byWall_53 (by decide) ?_
      refine lv_imul hx hb dX0_byWall_55 ?_
      refine lv_topi (fun z94827 ez94827 => ?_)
      have rz94827 := rg_all z94827
      refine lv_iconst (v := 1) hx hb dX0_byWall_56 (by decide) ?_
      refine lv_iadd hx hb dX0_byWall_57 ?_
      refine lv_topi (fun z94828 ez94828 => ?_)
      have rz94828 := rg_all z94828
      exact t_iret hQ X hT (⟨rfl, rg_all _⟩) (Nat.le_of_ble_eq_true rfl) (Nat.le_of_ble_eq_true rfl) dX0_byWall_58
    · have w94829 := cv_eq (rfl : z94819.toInt = z94819.toInt) (by decide : (0 : Int32).toInt = 0) c94820
      refine lv_sipush (v := 161) hx hb dX0_byWall_21 (by decide) ?_
      exact t_iret hQ X hT (⟨rfl, rg_all _⟩) (Nat.le_of_ble_eq_true rfl) (Nat.le_of_ble_eq_true rfl) dX0_byWall_24
  · have w94830 := cv_eq (rfl : z94816.toInt = z94816.toInt) (by decide : (0 : Int32).toInt = 0) c94817
    refine lv_bipush (v := 9) hx hb dX0_byWall_9 (by decide) ?_
    exact t_iret hQ X hT (⟨rfl, rg_all _⟩) (Nat.le_of_ble_eq_true rfl) (Nat.le_of_ble_eq_true rfl) dX0_byWall_11
set_option maxHeartbeats 4000000 in
set_option maxRecDepth 100000 in
theorem kt330_X0_empty (l : Launch) (G : KG) (tag : Nat → Nat) (L : List Nat) (Fo : Nat → va_E) (ho : okT G ttC tag L Fo) (p0 : Nat) (m0 : p0 ∈ L) (g0 : tag p0 = 12) : TMv l yX0_empty cX0_empty 2 { frames := 0, cells := 0, slots := 0, locals := 0 } G ttC tag L Fo [.ref p0] (fun F1 => ((∀ b j : Nat, fld F1 b j = fld Fo b j) ∧ EF tag F1 Fo)) := by
  refine t_bodyv (y := yX0_empty) (cd := cX0_empty) (mL := 2) (rm := { frames := 0, cells := 0, slots := 0, locals := 0 }) (av := [.ref p0]) (by decide) (Nat.le_of_ble_eq_true rfl) ho ?_
  intro p e s m args below meth c ls A Q hQ X hT hl
  have hx := X.1.1
  have hb := X.1.2.1
  have hl : lv_has ls 2 [(0, .ref p0)] := hl
  obtain ⟨F, hFo⟩ : ∃ F : Nat → va_E, F = Fo := ⟨_, rfl⟩
  rw [← hFo] at hT
  have hfr : (∀ b j : Nat, fld F b j = fld Fo b j) ∧ EF tag F Fo := by
    rw [hFo]
    exact ⟨by intros; rfl, fun _ _ _ => rfl⟩
  have K2 : ∀ (n : Nat) (z95020 : Int32) (F : Nat → va_E) (H : Heap) (locs : List Loc) (ls : Array Slot), (48 - z95020.toInt < (n : Int)) → (0 ≤ z95020.toInt ∧ z95020.toInt ≤ 48) → TH G ttC A s tag L F H locs → ((∀ b j : Nat, fld F b j = fld Fo b j) ∧ EF tag F Fo) → lv_has ls 2 [(0, .ref p0), (1, .int z95020)] → W p l e { frames := 0, cells := 0, slots := 0, locals := 0 } s m args below meth c H locs 0 0 Q (F0 m 2 ls []) := by
    intro n
    induction n with
    | zero =>
      intro z95020 F H locs ls hn rz95020 hT hfr hl
      exfalso
      omega
    | succ n ih2 =>
      intro z95020 F H locs ls hn rz95020 hT hfr hl
      refine lv_iload_n hx hb dX0_empty_2 rfl (lv_at hl 1 rfl) ?_
      refine lv_aload_n hx hb dX0_empty_3 rfl (lv_at hl 0 rfl) ?_
      refine t_alen X hT m0 g0 rfl (by decide) dX0_empty_4 ?_
      refine lv_topi (fun z95021 ez95021 => ?_)
      obtain rfl : z95021 = 48 := ez95021.trans (by rfl)
      refine lv_icmp_ge (tgt := 19) hx hb dX0_empty_5 (by decide) (fun c95022 => ?_) (fun c95022 => ?_)
      · have w95023 := cv_le (by decide : (48 : Int32).toInt = 48) (rfl : z95020.toInt = z95020.toInt) c95022
        exact t_vret hQ X hT hfr (Nat.le_of_ble_eq_true rfl) (Nat.le_of_ble_eq_true rfl) dX0_empty_19
      · have w95024 := cv_nle (by decide : (48 : Int32).toInt = 48) (rfl : z95020.toInt = z95020.toInt) c95022
        refine lv_aload_n hx hb dX0_empty_8 rfl (lv_at hl 0 rfl) ?_
        refine lv_iload_n hx hb dX0_empty_9 rfl (lv_at hl 1 rfl) ?_
        refine m_ldc X qw_1023 dX0_empty_10 ?_
        refine t_ist X hT m0 g0 rfl (by omega) (show (-2147483648) ≤ (1000000 : Int32).toInt ∧ (1000000 : Int32).toInt ≤ 2147483647 from (by decide)) dX0_empty_12 (fun F H locs hT v95025 h1v95025 h2v95025 => ?_)
        have hfr : (∀ b j : Nat, fld F b j = fld Fo b j) ∧ EF tag F Fo := ⟨fun b j  => (h2v95025 b j).trans (hfr.1 b j ), fun b j hb => (h1v95025 b j (Or.inl (ns_ne hb g0 (by decide)))).trans (hfr.2 b j hb)⟩
        obtain ⟨z95026, ez95026⟩ : ∃ y : Int32, y = z95020 + 1 := ⟨_, rfl⟩
        have hz95026 : z95026.toInt = z95020.toInt + 1 := ar_add ez95026 rfl (by decide : (1 : Int32).toInt = 1) (by omega) (by omega)
        refine lv_iinc (v := z95026) (lv' := [(1, .int z95026), (0, .ref p0)]) hx hb dX0_empty_13 hl (k := 1) rfl (by rw [ez95026]; rfl) (by decide) rfl (fun ls hl => ?_)
        refine lv_goto (tgt := 2) hx hb dX0_empty_16 (by decide) ?_
        exact ih2 z95026 _ _ _ _ (by omega) (by omega) hT hfr  (lv_sub hl [1, 0] rfl)
  refine lv_iconst (v := 0) hx hb dX0_empty_0 (by decide) ?_
  refine lv_istore_n (lv' := [(1, .int 0), (0, .ref p0)]) hx hb dX0_empty_1 rfl hl (by decide) rfl (fun ls hl => ?_)
  have kk95027 : (0 : Int32).toInt = 0 := by decide
  exact K2 49 0 _ _ _ _ (by omega) (by decide) hT hfr  (lv_sub hl [1, 0] rfl)
set_option maxHeartbeats 4000000 in
set_option maxRecDepth 100000 in
theorem kt331_X0_least (l : Launch) (G : KG) (tag : Nat → Nat) (L : List Nat) (F : Nat → va_E) (ho : okT G ttC tag L F) (p0 : Nat) (p1 : Int32) (m0 : p0 ∈ L) (g0 : tag p0 = 21) : TMi l yX0_least cX0_least 4 (some .int) { frames := 1, cells := 0, slots := 0, locals := 13 } G ttC tag L F [.ref p0, .int p1] (fun r F1 => F1 = F ∧ ((-2147483648) ≤ r.toInt ∧ r.toInt ≤ 1000000)) := by
  refine t_bodyi (y := yX0_least) (cd := cX0_least) (mL := 4) (rt := (some .int)) (rm := { frames := 1, cells := 0, slots := 0, locals := 13 }) (av := [.ref p0, .int p1]) (by decide) (Nat.le_of_ble_eq_true rfl) ho ?_
  intro p e s m args below meth c ls A Q hQ X hT hl
  have hx := X.1.1
  have hb := X.1.2.1
  have hl : lv_has ls 4 [(0, .ref p0), (1, .int p1)] := hl
  have rp1 := rg_all p1
  have K5 : ∀ (n : Nat) (z95447 : Int32) (z95448 : Int32) (H : Heap) (locs : List Loc) (ls : Array Slot), (48 - z95448.toInt < (n : Int)) → ((-2147483648) ≤ z95447.toInt ∧ z95447.toInt ≤ 1000000) → (0 ≤ z95448.toInt ∧ z95448.toInt ≤ 48) → TH G ttC A s tag L F H locs → lv_has ls 4 [(0, .ref p0), (1, .int p1), (2, .int z95447), (3, .int z95448)] → W p l e { frames := 1, cells := 0, slots := 0, locals := 13 } s m args below meth c H locs 0 0 Q (F0 m 5 ls []) := by
    intro n
    induction n with
    | zero =>
      intro z95447 z95448 H locs ls hn rz95447 rz95448 hT hl
      exfalso
      omega
    | succ n ih5 =>
      intro z95447 z95448 H locs ls hn rz95447 rz95448 hT hl
      refine lv_iload_n hx hb dX0_least_5 rfl (lv_at hl 3 rfl) ?_
      refine lv_iload_n hx hb dX0_least_6 rfl (lv_at hl 1 rfl) ?_
      refine lv_icmp_ge (tgt := 36) hx hb dX0_least_7 (by decide) (fun c95449 => ?_) (fun c95449 => ?_)
      · have w95450 := cv_le (rfl : p1.toInt = p1.toInt) (rfl : z95448.toInt = z95448.toInt) c95449
        refine lv_iload_n hx hb dX0_least_36 rfl (lv_at hl 2 rfl) ?_
        exact t_iret hQ X hT (⟨rfl, (by omega)⟩) (Nat.le_of_ble_eq_true rfl) (Nat.le_of_ble_eq_true rfl) dX0_least_37
      · have w95451 := cv_nle (rfl : p1.toInt = p1.toInt) (rfl : z95448.toInt = z95448.toInt) c95449
        refine lv_iload_n hx hb dX0_least_10 rfl (lv_at hl 3 rfl) ?_
        refine lv_aload_n hx hb dX0_least_11 rfl (lv_at hl 0 rfl) ?_
        refine t_get (C := RX0) (T := TX0) (N := 2) X hT m0 g0 rfl rfl 0 (by decide) qw_88 inlX0 rfl dX0_least_12 (fun v95452 hv95452 ov95452 => ?_)
        obtain ⟨b95453, rfl, mb95453, gb95453⟩ := okV_r ov95452
        have gb95453 : tag b95453 = 12 := tg_of gb95453
        refine t_alen X hT mb95453 gb95453 rfl (by decide) dX0_least_15 ?_
        refine lv_topi (fun z95454 ez95454 => ?_)
        obtain rfl : z95454 = 48 := ez95454.trans (by rfl)
        refine lv_icmp_ge (tgt := 36) hx hb dX0_least_16 (by decide) (fun c95455 => ?_) (fun c95455 => ?_)
        · have w95456 := cv_le (by decide : (48 : Int32).toInt = 48) (rfl : z95448.toInt = z95448.toInt) c95455
          refine lv_iload_n hx hb dX0_least_36 rfl (lv_at hl 2 rfl) ?_
          exact t_iret hQ X hT (⟨rfl, (by omega)⟩) (Nat.le_of_ble_eq_true rfl) (Nat.le_of_ble_eq_true rfl) dX0_least_37
        · have w95457 := cv_nle (by decide : (48 : Int32).toInt = 48) (rfl : z95448.toInt = z95448.toInt) c95455
          refine lv_iload_n hx hb dX0_least_19 rfl (lv_at hl 2 rfl) ?_
          refine lv_aload_n hx hb dX0_least_20 rfl (lv_at hl 0 rfl) ?_
          refine t_get (C := RX0) (T := TX0) (N := 2) X hT m0 g0 rfl rfl 0 (by decide) qw_88 inlX0 rfl dX0_least_21 (fun v95458 hv95458 ov95458 => ?_)
          obtain rfl : v95458 = .ref b95453 := hv95458.symm.trans hv95452
          refine lv_iload_n hx hb dX0_least_24 rfl (lv_at hl 3 rfl) ?_
          refine t_ild X hT mb95453 gb95453 rfl (by omega) dX0_least_25 (fun z95459 vz95459 rz95459 => ?_)
          have rz95459 : (-2147483648) ≤ z95459.toInt ∧ z95459.toInt ≤ 2147483647 := rz95459
          refine t_mmin X hl qw_1017 qw_1018 qw_850 qw_1019 (Nat.le_of_ble_eq_true rfl) (Nat.le_of_ble_eq_true rfl) (Nat.le_of_ble_eq_true rfl) (Nat.le_of_ble_eq_true rfl) dX0_least_26 (fun z95460 ez95460 => ?_)
          have hz95460 := mmin_e ez95460 (rfl : z95447.toInt = z95447.toInt) (rfl : z95459.toInt = z95459.toInt)
          refine lv_istore_n (lv' := [(2, .int z95460), (0, .ref p0), (1, .int p1), (3, .int z95448)]) hx hb dX0_least_29 rfl hl (by decide) rfl (fun ls hl => ?_)
          obtain ⟨z95461, ez95461⟩ : ∃ y : Int32, y = z95448 + 1 := ⟨_, rfl⟩
          have hz95461 : z95461.toInt = z95448.toInt + 1 := ar_add ez95461 rfl (by decide : (1 : Int32).toInt = 1) (by omega) (by omega)
          refine lv_iinc (v := z95461) (lv' := [(3, .int z95461), (2, .int z95460), (0, .ref p0), (1, .int p1)]) hx hb dX0_least_30 hl (k := 3) rfl (by rw [ez95461]; rfl) (by decide) rfl (fun ls hl => ?_)
          refine lv_goto (tgt := 5) hx hb dX0_least_33 (by decide) ?_
          exact ih5 z95460 z95461 _ _ _ (by omega) (by omega) (by omega) hT  (lv_sub hl [2, 3, 1, 0] rfl)
  refine m_ldc X qw_1023 dX0_least_0 ?_
  refine lv_istore_n (lv' := [(2, .int 1000000), (0, .ref p0), (1, .int p1)]) hx hb dX0_least_2 rfl hl (by decide) rfl (fun ls hl => ?_)
  refine lv_iconst (v := 0) hx hb dX0_least_3 (by decide) ?_
  refine lv_istore_n (lv' := [(3, .int 0), (2, .int 1000000), (0, .ref p0), (1, .int p1)]) hx hb dX0_least_4 rfl hl (by decide) rfl (fun ls hl => ?_)
  have kk95462 : (1000000 : Int32).toInt = 1000000 := by decide
  have kk95463 : (0 : Int32).toInt = 0 := by decide
  exact K5 49 1000000 0 _ _ _ (by omega) (by decide) (by decide) hT  (lv_sub hl [2, 3, 1, 0] rfl)
set_option maxHeartbeats 4000000 in
set_option maxRecDepth 100000 in
theorem kt332_X0_goRound (l : Launch) (G : KG) (tag : Nat → Nat) (L : List Nat) (Fo : Nat → va_E) (ho : okT G ttC tag L Fo) (p0 : Nat) (p1 : Int32) (m0 : p0 ∈ L) (g0 : tag p0 = 21) : TMv l yX0_goRound cX0_goRound 5 { frames := 1, cells := 0, slots := 0, locals := 15 } G ttC tag L Fo [.ref p0, .int p1] (fun F1 => ((∀ b j : Nat, fld F1 b j = fld Fo b j) ∧ EF tag F1 Fo)) := by
  refine t_bodyv (y := yX0_goRound) (cd := cX0_goRound) (mL := 5) (rm := { frames := 1, cells := 0, slots := 0, locals := 15 }) (av := [.ref p0, .int p1]) (by decide) (Nat.le_of_ble_eq_true rfl) ho ?_
  intro p e s m args below meth c ls A Q hQ X hT hl
  have hx := X.1.1
  have hb := X.1.2.1
  have hl : lv_has ls 5 [(0, .ref p0), (1, .int p1)] := hl
  have rp1 := rg_all p1
  obtain ⟨F, hFo⟩ : ∃ F : Nat → va_E, F = Fo := ⟨_, rfl⟩
  rw [← hFo] at hT
  have hfr : (∀ b j : Nat, fld F b j = fld Fo b j) ∧ EF tag F Fo := by
    rw [hFo]
    exact ⟨by intros; rfl, fun _ _ _ => rfl⟩
  have K73 : ∀ (n : Nat) (z96443 : Int32) (z96444 : Int32) (F : Nat → va_E) (H : Heap) (locs : List Loc) (ls : Array Slot), (z96444.toInt - 0 < (n : Int)) → (1 ≤ z96443.toInt ∧ z96443.toInt ≤ 48) → (0 ≤ z96444.toInt ∧ z96444.toInt ≤ 96) → TH G ttC A s tag L F H locs → ((∀ b j : Nat, fld F b j = fld Fo b j) ∧ EF tag F Fo) → lv_has ls 5 [(0, .ref p0), (1, .int p1), (2, .int z96443), (3, .int z96444)] → W p l e { frames := 1, cells := 0, slots := 0, locals := 15 } s m args below meth c H locs 0 0 Q (F0 m 73 ls []) := by
    intro n
    induction n with
    | zero =>
      intro z96443 z96444 F H locs ls hn rz96443 rz96444 hT hfr hl
      exfalso
      omega
    | succ n ih73 =>
      intro z96443 z96444 F H locs ls hn rz96443 rz96444 hT hfr hl
      refine lv_iload_n hx hb dX0_goRound_73 rfl (lv_at hl 3 rfl) ?_
      refine lv_if_le (tgt := 118) hx hb dX0_goRound_74 (by decide) (fun c96445 => ?_) (fun c96445 => ?_)
      · have w96446 := cv_le (rfl : z96444.toInt = z96444.toInt) (by decide : (0 : Int32).toInt = 0) c96445
        exact t_vret hQ X hT hfr (Nat.le_of_ble_eq_true rfl) (Nat.le_of_ble_eq_true rfl) dX0_goRound_118
      · have w96447 := cv_nle (rfl : z96444.toInt = z96444.toInt) (by decide : (0 : Int32).toInt = 0) c96445
        refine lv_iload_n hx hb dX0_goRound_77 rfl (lv_at hl 3 rfl) ?_
        refine lv_iconst (v := 1) hx hb dX0_goRound_78 (by decide) ?_
        refine lv_isub hx hb dX0_goRound_79 ?_
        refine lv_topi (fun z96448 ez96448 => ?_)
        have hz96448 : z96448.toInt = z96444.toInt - 1 := ar_sub ez96448 (rfl : z96444.toInt = z96444.toInt) (by decide : (1 : Int32).toInt = 1) (by omega) (by omega)
        have rz96448 : 0 ≤ z96448.toInt ∧ z96448.toInt ≤ 95 := by omega
        refine lv_iload_n hx hb dX0_goRound_80 rfl (lv_at hl 2 rfl) ?_
        refine lv_irem hx hb dX0_goRound_81 (ne0_of (by omega)) ?_
        refine lv_topi (fun z96449 ez96449 => ?_)
        have hz96449 := ar_remv ez96449 (by omega) (by omega)
        have rz96449 : 0 ≤ z96449.toInt ∧ z96449.toInt ≤ 47 := by omega
        refine lv_istore (lv' := [(4, .int z96449), (0, .ref p0), (1, .int p1), (2, .int z96443), (3, .int z96444)]) hx hb dX0_goRound_82 hl (by decide) rfl (fun ls hl => ?_)
        refine lv_aload_n hx hb dX0_goRound_84 rfl (lv_at hl 1 rfl) ?_
        refine t_get (C := RX0) (T := TX0) (N := 2) X hT m0 g0 rfl rfl 0 (by decide) qw_88 inlX0 rfl dX0_goRound_85 (fun v96450 hv96450 ov96450 => ?_)
        obtain ⟨b96451, rfl, mb96451, gb96451⟩ := okV_r ov96450
        have gb96451 : tag b96451 = 12 := tg_of gb96451
        refine lv_iload hx hb dX0_goRound_88 (lv_at hl 0 rfl) ?_
        refine lv_aload_n hx hb dX0_goRound_90 rfl (lv_at hl 1 rfl) ?_
        refine t_get (C := RX0) (T := TX0) (N := 2) X hT m0 g0 rfl rfl 0 (by decide) qw_88 inlX0 rfl dX0_goRound_91 (fun v96452 hv96452 ov96452 => ?_)
        obtain rfl : v96452 = .ref b96451 := hv96452.symm.trans hv96450
        refine lv_iload hx hb dX0_goRound_94 (lv_at hl 0 rfl) ?_
        refine t_ild X hT mb96451 gb96451 rfl (by omega) dX0_goRound_96 (fun z96453 vz96453 rz96453 => ?_)
        have rz96453 : (-2147483648) ≤ z96453.toInt ∧ z96453.toInt ≤ 2147483647 := rz96453
        refine lv_aload_n hx hb dX0_goRound_97 rfl (lv_at hl 1 rfl) ?_
        refine t_get (C := RX0) (T := TX0) (N := 2) X hT m0 g0 rfl rfl 0 (by decide) qw_88 inlX0 rfl dX0_goRound_98 (fun v96454 hv96454 ov96454 => ?_)
        obtain rfl : v96454 = .ref b96451 := hv96454.symm.trans hv96450
        refine lv_iload_n hx hb dX0_goRound_101 rfl (lv_at hl 4 rfl) ?_
        refine lv_iload_n hx hb dX0_goRound_102 rfl (lv_at hl 3 rfl) ?_
        refine lv_irem hx hb dX0_goRound_103 (ne0_of (by omega)) ?_
        refine lv_topi (fun z96455 ez96455 => ?_)
        have hz96455 := ar_remv ez96455 (by omega) (by omega)
        have rz96455 : 0 ≤ z96455.toInt ∧ z96455.toInt ≤ 47 := by omega
        refine t_ild X hT mb96451 gb96451 rfl (by omega) dX0_goRound_104 (fun z96456 vz96456 rz96456 => ?_)
        have rz96456 : (-2147483648) ≤ z96456.toInt ∧ z96456.toInt ≤ 2147483647 := rz96456
        refine lv_bipush (v := 8) hx hb dX0_goRound_105 (by decide) ?_
        refine lv_iadd hx hb dX0_goRound_107 ?_
        refine lv_topi (fun z96457 ez96457 => ?_)
        have rz96457 := rg_all z96457
        refine t_mmin X hl qw_1017 qw_1018 qw_850 qw_1019 (Nat.le_of_ble_eq_true rfl) (Nat.le_of_ble_eq_true rfl) (Nat.le_of_ble_eq_true rfl) (Nat.le_of_ble_eq_true rfl) dX0_goRound_108 (fun z96458 ez96458 => ?_)
        have hz96458 := mmin_e ez96458 (rfl : z96453.toInt = z96453.toInt) (rfl : z96457.toInt = z96457.toInt)
        refine t_ist X hT mb96451 gb96451 rfl (by omega) (show (-2147483648) ≤ (z96458 : Int32).toInt ∧ (z96458 : Int32).toInt ≤ 2147483647 from (by omega)) dX0_goRound_111 (fun F H locs hT v96459 h1v96459 h2v96459 => ?_)
        have hv96450 := (h2v96459 _ _).trans hv96450
        have hfr : (∀ b j : Nat, fld F b j = fld Fo b j) ∧ EF tag F Fo := ⟨fun b j  => (h2v96459 b j).trans (hfr.1 b j ), fun b j hb => (h1v96459 b j (Or.inl (ns_ne hb gb96451 (by decide)))).trans (hfr.2 b j hb)⟩
        obtain ⟨z96460, ez96460⟩ : ∃ y : Int32, y = z96444 + (-1) := ⟨_, rfl⟩
        have hz96460 : z96460.toInt = z96444.toInt + (-1) := ar_add ez96460 rfl (by decide : ((-1) : Int32).toInt = (-1)) (by omega) (by omega)
        refine lv_iinc (v := z96460) (lv' := [(3, .int z96460), (4, .int z96449), (0, .ref p0), (1, .int p1), (2, .int z96443)]) hx hb dX0_goRound_112 hl (k := 4) rfl (by rw [ez96460]; rfl) (by decide) rfl (fun ls hl => ?_)
        refine lv_goto (tgt := 73) hx hb dX0_goRound_115 (by decide) ?_
        exact ih73 z96443 z96460 _ _ _ _ (by omega) (by omega) (by omega) hT hfr  (lv_sub hl [2, 3, 4, 0] rfl)
  have K21 : ∀ (n : Nat) (z96461 : Int32) (z96462 : Int32) (F : Nat → va_E) (H : Heap) (locs : List Loc) (ls : Array Slot), (96 - z96462.toInt < (n : Int)) → (1 ≤ z96461.toInt ∧ z96461.toInt ≤ 48) → (0 ≤ z96462.toInt ∧ z96462.toInt ≤ 96) → TH G ttC A s tag L F H locs → ((∀ b j : Nat, fld F b j = fld Fo b j) ∧ EF tag F Fo) → lv_has ls 5 [(0, .ref p0), (1, .int p1), (2, .int z96461), (3, .int z96462)] → W p l e { frames := 1, cells := 0, slots := 0, locals := 15 } s m args below meth c H locs 0 0 Q (F0 m 21 ls []) := by
    intro n
    induction n with
    | zero =>
      intro z96461 z96462 F H locs ls hn rz96461 rz96462 hT hfr hl
      exfalso
      omega
    | succ n ih21 =>
      intro z96461 z96462 F H locs ls hn rz96461 rz96462 hT hfr hl
      refine lv_iload_n hx hb dX0_goRound_21 rfl (lv_at hl 3 rfl) ?_
      refine lv_iconst (v := 2) hx hb dX0_goRound_22 (by decide) ?_
      refine lv_iload_n hx hb dX0_goRound_23 rfl (lv_at hl 2 rfl) ?_
      refine lv_imul hx hb dX0_goRound_24 ?_
      refine lv_topi (fun z96463 ez96463 => ?_)
      have hz96463 : z96463.toInt = 2 * z96461.toInt := ar_mul ez96463 (by decide : (2 : Int32).toInt = 2) (rfl : z96461.toInt = z96461.toInt) (by omega) (by omega)
      have rz96463 : 2 ≤ z96463.toInt ∧ z96463.toInt ≤ 96 := by omega
      refine lv_icmp_ge (tgt := 69) hx hb dX0_goRound_25 (by decide) (fun c96464 => ?_) (fun c96464 => ?_)
      · have w96465 := cv_le (rfl : z96463.toInt = z96463.toInt) (rfl : z96462.toInt = z96462.toInt) c96464
        refine lv_iconst (v := 2) hx hb dX0_goRound_69 (by decide) ?_
        refine lv_iload_n hx hb dX0_goRound_70 rfl (lv_at hl 2 rfl) ?_
        refine lv_imul hx hb dX0_goRound_71 ?_
        refine lv_topi (fun z96466 ez96466 => ?_)
        have hz96466 : z96466.toInt = 2 * z96461.toInt := ar_mul ez96466 (by decide : (2 : Int32).toInt = 2) (rfl : z96461.toInt = z96461.toInt) (by omega) (by omega)
        have rz96466 : 2 ≤ z96466.toInt ∧ z96466.toInt ≤ 96 := by omega
        refine lv_istore_n (lv' := [(3, .int z96466), (0, .ref p0), (1, .int p1), (2, .int z96461)]) hx hb dX0_goRound_72 rfl hl (by decide) rfl (fun ls hl => ?_)
        exact K73 97 z96461 z96466 _ _ _ _ (by omega) (by omega) (by omega) hT hfr  (lv_sub hl [1, 2, 3, 0] rfl)
      · have w96467 := cv_nle (rfl : z96463.toInt = z96463.toInt) (rfl : z96462.toInt = z96462.toInt) c96464
        refine lv_iload_n hx hb dX0_goRound_28 rfl (lv_at hl 3 rfl) ?_
        refine lv_iconst (v := 1) hx hb dX0_goRound_29 (by decide) ?_
        refine lv_iadd hx hb dX0_goRound_30 ?_
        refine lv_topi (fun z96468 ez96468 => ?_)
        have hz96468 : z96468.toInt = z96462.toInt + 1 := ar_add ez96468 (rfl : z96462.toInt = z96462.toInt) (by decide : (1 : Int32).toInt = 1) (by omega) (by omega)
        have rz96468 : 1 ≤ z96468.toInt ∧ z96468.toInt ≤ 96 := by omega
        refine lv_iload_n hx hb dX0_goRound_31 rfl (lv_at hl 2 rfl) ?_
        refine lv_irem hx hb dX0_goRound_32 (ne0_of (by omega)) ?_
        refine lv_topi (fun z96469 ez96469 => ?_)
        have hz96469 := ar_remv ez96469 (by omega) (by omega)
        have rz96469 : 0 ≤ z96469.toInt ∧ z96469.toInt ≤ 47 := by omega
        refine lv_istore (lv' := [(4, .int z96469), (0, .ref p0), (1, .int p1), (2, .int z96461), (3, .int z96462)]) hx hb dX0_goRound_33 hl (by decide) rfl (fun ls hl => ?_)
        refine lv_aload_n hx hb dX0_goRound_35 rfl (lv_at hl 1 rfl) ?_
        refine t_get (C := RX0) (T := TX0) (N := 2) X hT m0 g0 rfl rfl 0 (by decide) qw_88 inlX0 rfl dX0_goRound_36 (fun v96470 hv96470 ov96470 => ?_)
        obtain ⟨b96471, rfl, mb96471, gb96471⟩ := okV_r ov96470
        have gb96471 : tag b96471 = 12 := tg_of gb96471
        refine lv_iload hx hb dX0_goRound_39 (lv_at hl 0 rfl) ?_
        refine lv_aload_n hx hb dX0_goRound_41 rfl (lv_at hl 1 rfl) ?_
        refine t_get (C := RX0) (T := TX0) (N := 2) X hT m0 g0 rfl rfl 0 (by decide) qw_88 inlX0 rfl dX0_goRound_42 (fun v96472 hv96472 ov96472 => ?_)
        obtain rfl : v96472 = .ref b96471 := hv96472.symm.trans hv96470
        refine lv_iload hx hb dX0_goRound_45 (lv_at hl 0 rfl) ?_
        refine t_ild X hT mb96471 gb96471 rfl (by omega) dX0_goRound_47 (fun z96473 vz96473 rz96473 => ?_)
        have rz96473 : (-2147483648) ≤ z96473.toInt ∧ z96473.toInt ≤ 2147483647 := rz96473
        refine lv_aload_n hx hb dX0_goRound_48 rfl (lv_at hl 1 rfl) ?_
        refine t_get (C := RX0) (T := TX0) (N := 2) X hT m0 g0 rfl rfl 0 (by decide) qw_88 inlX0 rfl dX0_goRound_49 (fun v96474 hv96474 ov96474 => ?_)
        obtain rfl : v96474 = .ref b96471 := hv96474.symm.trans hv96470
        refine lv_iload_n hx hb dX0_goRound_52 rfl (lv_at hl 4 rfl) ?_
        refine lv_iload_n hx hb dX0_goRound_53 rfl (lv_at hl 3 rfl) ?_
        refine lv_irem hx hb dX0_goRound_54 (ne0_of (by omega)) ?_
        refine lv_topi (fun z96475 ez96475 => ?_)
        have hz96475 := ar_remv ez96475 (by omega) (by omega)
        have rz96475 : 0 ≤ z96475.toInt ∧ z96475.toInt ≤ 47 := by omega
        refine t_ild X hT mb96471 gb96471 rfl (by omega) dX0_goRound_55 (fun z96476 vz96476 rz96476 => ?_)
        have rz96476 : (-2147483648) ≤ z96476.toInt ∧ z96476.toInt ≤ 2147483647 := rz96476
        refine lv_bipush (v := 8) hx hb dX0_goRound_56 (by decide) ?_
        refine lv_iadd hx hb dX0_goRound_58 ?_
        refine lv_topi (fun z96477 ez96477 => ?_)
        have rz96477 := rg_all z96477
        refine t_mmin X hl qw_1017 qw_1018 qw_850 qw_1019 (Nat.le_of_ble_eq_true rfl) (Nat.le_of_ble_eq_true rfl) (Nat.le_of_ble_eq_true rfl) (Nat.le_of_ble_eq_true rfl) dX0_goRound_59 (fun z96478 ez96478 => ?_)
        have hz96478 := mmin_e ez96478 (rfl : z96473.toInt = z96473.toInt) (rfl : z96477.toInt = z96477.toInt)
        refine t_ist X hT mb96471 gb96471 rfl (by omega) (show (-2147483648) ≤ (z96478 : Int32).toInt ∧ (z96478 : Int32).toInt ≤ 2147483647 from (by omega)) dX0_goRound_62 (fun F H locs hT v96479 h1v96479 h2v96479 => ?_)
        have hv96470 := (h2v96479 _ _).trans hv96470
        have hfr : (∀ b j : Nat, fld F b j = fld Fo b j) ∧ EF tag F Fo := ⟨fun b j  => (h2v96479 b j).trans (hfr.1 b j ), fun b j hb => (h1v96479 b j (Or.inl (ns_ne hb gb96471 (by decide)))).trans (hfr.2 b j hb)⟩
        obtain ⟨z96480, ez96480⟩ : ∃ y : Int32, y = z96462 + 1 := ⟨_, rfl⟩
        have hz96480 : z96480.toInt = z96462.toInt + 1 := ar_add ez96480 rfl (by decide : (1 : Int32).toInt = 1) (by omega) (by omega)
        refine lv_iinc (v := z96480) (lv' := [(3, .int z96480), (4, .int z96469), (0, .ref p0), (1, .int p1), (2, .int z96461)]) hx hb dX0_goRound_63 hl (k := 4) rfl (by rw [ez96480]; rfl) (by decide) rfl (fun ls hl => ?_)
        refine lv_goto (tgt := 21) hx hb dX0_goRound_66 (by decide) ?_
        exact ih21 z96461 z96480 _ _ _ _ (by omega) (by omega) (by omega) hT hfr  (lv_sub hl [2, 3, 4, 0] rfl)
  refine lv_bipush (v := 8) hx hb dX0_goRound_0 (by decide) ?_
  refine lv_iload_n hx hb dX0_goRound_2 rfl (lv_at hl 1 rfl) ?_
  refine lv_imul hx hb dX0_goRound_3 ?_
  refine lv_topi (fun z96481 ez96481 => ?_)
  have rz96481 := rg_all z96481
  refine lv_aload_n hx hb dX0_goRound_4 rfl (lv_at hl 0 rfl) ?_
  refine t_get (C := RX0) (T := TX0) (N := 2) X hT m0 g0 rfl rfl 0 (by decide) qw_88 inlX0 rfl dX0_goRound_5 (fun v96482 hv96482 ov96482 => ?_)
  obtain ⟨b96483, rfl, mb96483, gb96483⟩ := okV_r ov96482
  have gb96483 : tag b96483 = 12 := tg_of gb96483
  refine t_alen X hT mb96483 gb96483 rfl (by decide) dX0_goRound_8 ?_
  refine lv_topi (fun z96484 ez96484 => ?_)
  obtain rfl : z96484 = 48 := ez96484.trans (by rfl)
  refine t_mmin X hl qw_1017 qw_1018 qw_850 qw_1019 (Nat.le_of_ble_eq_true rfl) (Nat.le_of_ble_eq_true rfl) (Nat.le_of_ble_eq_true rfl) (Nat.le_of_ble_eq_true rfl) dX0_goRound_9 (fun z96485 ez96485 => ?_)
  have hz96485 := mmin_e ez96485 (rfl : z96481.toInt = z96481.toInt) (by decide : (48 : Int32).toInt = 48)
  refine lv_istore_n (lv' := [(2, .int z96485), (0, .ref p0), (1, .int p1)]) hx hb dX0_goRound_12 rfl hl (by decide) rfl (fun ls hl => ?_)
  refine lv_iload_n hx hb dX0_goRound_13 rfl (lv_at hl 0 rfl) ?_
  refine lv_iconst (v := 1) hx hb dX0_goRound_14 (by decide) ?_
  refine lv_icmp_ge (tgt := 19) hx hb dX0_goRound_15 (by decide) (fun c96486 => ?_) (fun c96486 => ?_)
  · have w96487 := cv_le (by decide : (1 : Int32).toInt = 1) (rfl : z96485.toInt = z96485.toInt) c96486
    refine lv_iconst (v := 0) hx hb dX0_goRound_19 (by decide) ?_
    refine lv_istore_n (lv' := [(3, .int 0), (2, .int z96485), (0, .ref p0), (1, .int p1)]) hx hb dX0_goRound_20 rfl hl (by decide) rfl (fun ls hl => ?_)
    have kk96488 : (0 : Int32).toInt = 0 := by decide
    exact K21 97 z96485 0 _ _ _ _ (by omega) (by omega) (by decide) hT hfr  (lv_sub hl [2, 3, 1, 0] rfl)
  · have w96489 := cv_nle (by decide : (1 : Int32).toInt = 1) (rfl : z96485.toInt = z96485.toInt) c96486
    exact t_vret hQ X hT hfr (Nat.le_of_ble_eq_true rfl) (Nat.le_of_ble_eq_true rfl) dX0_goRound_18
set_option maxHeartbeats 4000000 in
set_option maxRecDepth 100000 in
theorem kt333_X4_inFront (l : Launch) (G : KG) (tag : Nat → Nat) (L : List Nat) (F : Nat → va_E) (ho : okT G ttC tag L F) (p0 : Int32) (p1 : Int32) (h0 : (-2147483648) ≤ p0.toInt ∧ p0.toInt ≤ 7) (h1 : 0 ≤ p1.toInt ∧ p1.toInt ≤ 47) : TMi l yX4_inFront cX4_inFront 4 (some .int) { frames := 0, cells := 0, slots := 0, locals := 0 } G ttC tag L F [.int p0, .int p1] (fun r F1 => F1 = F ∧ (0 ≤ r.toInt ∧ r.toInt ≤ 766)) := by
  refine t_bodyi (y := yX4_inFront) (cd := cX4_inFront) (mL := 4) (rt := (some .int)) (rm := { frames := 0, cells := 0, slots := 0, locals := 0 }) (av := [.int p0, .int p1]) (by decide) (Nat.le_of_ble_eq_true rfl) ho ?_
  intro p e s m args below meth c ls A Q hQ X hT hl
  have hx := X.1.1
  have hb := X.1.2.1
  have hl : lv_has ls 4 [(0, .int p0), (1, .int p1)] := hl
  refine lv_iload_n hx hb dX4_inFront_0 rfl (lv_at hl 0 rfl) ?_
  refine lv_iconst (v := 1) hx hb dX4_inFront_1 (by decide) ?_
  refine lv_icmp_ge (tgt := 7) hx hb dX4_inFront_2 (by decide) (fun c96643 => ?_) (fun c96643 => ?_)
  · have w96644 := cv_le (by decide : (1 : Int32).toInt = 1) (rfl : p0.toInt = p0.toInt) c96643
    refine lv_iload_n hx hb dX4_inFront_7 rfl (lv_at hl 1 rfl) ?_
    refine lv_iconst (v := 2) hx hb dX4_inFront_8 (by decide) ?_
    refine lv_iload_n hx hb dX4_inFront_9 rfl (lv_at hl 0 rfl) ?_
    refine lv_imul hx hb dX4_inFront_10 ?_
    refine lv_topi (fun z96645 ez96645 => ?_)
    have hz96645 : z96645.toInt = 2 * p0.toInt := ar_mul ez96645 (by decide : (2 : Int32).toInt = 2) (rfl : p0.toInt = p0.toInt) (by omega) (by omega)
    have rz96645 : 2 ≤ z96645.toInt ∧ z96645.toInt ≤ 14 := by omega
    refine lv_idiv hx hb dX4_inFront_11 (ne0_of (by omega)) ?_
    refine lv_topi (fun z96646 ez96646 => ?_)
    have rz96646 : 0 ≤ z96646.toInt ∧ z96646.toInt ≤ 47 := ar_divv ez96646 (A := 47) (by omega) (by omega)
    refine lv_istore_n (lv' := [(2, .int z96646), (0, .int p0), (1, .int p1)]) hx hb dX4_inFront_12 rfl hl (by decide) rfl (fun ls hl => ?_)
    refine lv_iload_n hx hb dX4_inFront_13 rfl (lv_at hl 2 rfl) ?_
    refine lv_iconst (v := 2) hx hb dX4_inFront_14 (by decide) ?_
    refine lv_iload_n hx hb dX4_inFront_15 rfl (lv_at hl 1 rfl) ?_
    refine lv_imul hx hb dX4_inFront_16 ?_
    refine lv_topi (fun z96647 ez96647 => ?_)
    have hz96647 : z96647.toInt = 2 * p0.toInt := ar_mul ez96647 (by decide : (2 : Int32).toInt = 2) (rfl : p0.toInt = p0.toInt) (by omega) (by omega)
    have rz96647 : 2 ≤ z96647.toInt ∧ z96647.toInt ≤ 14 := by omega
    refine lv_irem hx hb dX4_inFront_17 (ne0_of (by omega)) ?_
    refine lv_topi (fun z96648 ez96648 => ?_)
    have hz96648 := ar_remv ez96648 (by omega) (by omega)
    have rz96648 : 0 ≤ z96648.toInt ∧ z96648.toInt ≤ 13 := by omega
    refine lv_istore_n (lv' := [(3, .int z96648), (2, .int z96646), (0, .int p0), (1, .int p1)]) hx hb dX4_inFront_18 rfl hl (by decide) rfl (fun ls hl => ?_)
    refine lv_iload_n hx hb dX4_inFront_19 rfl (lv_at hl 1 rfl) ?_
    refine lv_iconst (v := 2) hx hb dX4_inFront_20 (by decide) ?_
    refine lv_iload_n hx hb dX4_inFront_21 rfl (lv_at hl 2 rfl) ?_
    refine lv_imul hx hb dX4_inFront_22 ?_
    refine lv_topi (fun z96649 ez96649 => ?_)
    have hz96649 : z96649.toInt = 2 * p0.toInt := ar_mul ez96649 (by decide : (2 : Int32).toInt = 2) (rfl : p0.toInt = p0.toInt) (by omega) (by omega)
    have rz96649 : 2 ≤ z96649.toInt ∧ z96649.toInt ≤ 14 := by omega
    refine lv_iconst (v := 2) hx hb dX4_inFront_23 (by decide) ?_
    refine lv_iadd hx hb dX4_inFront_24 ?_
    refine lv_topi (fun z96650 ez96650 => ?_)
    have hz96650 : z96650.toInt = z96649.toInt + 2 := ar_add ez96650 (rfl : z96649.toInt = z96649.toInt) (by decide : (2 : Int32).toInt = 2) (by omega) (by omega)
    have rz96650 : 4 ≤ z96650.toInt ∧ z96650.toInt ≤ 16 := by omega
    refine lv_imul hx hb dX4_inFront_25 ?_
    refine lv_topi (fun z96651 ez96651 => ?_)
    have rz96651 : 0 ≤ z96651.toInt ∧ z96651.toInt ≤ 752 := ar_mulb ez96651 (A := 47) (B := 16) (by omega) (by omega) (by decide) (by decide)
    refine lv_iload_n hx hb dX4_inFront_26 rfl (lv_at hl 0 rfl) ?_
    refine lv_iadd hx hb dX4_inFront_27 ?_
    refine lv_topi (fun z96652 ez96652 => ?_)
    have hz96652 : z96652.toInt = z96651.toInt + z96648.toInt := ar_add ez96652 (rfl : z96651.toInt = z96651.toInt) (rfl : z96648.toInt = z96648.toInt) (by omega) (by omega)
    have rz96652 : 0 ≤ z96652.toInt ∧ z96652.toInt ≤ 765 := by omega
    refine lv_iconst (v := 1) hx hb dX4_inFront_28 (by decide) ?_
    refine lv_iadd hx hb dX4_inFront_29 ?_
    refine lv_topi (fun z96653 ez96653 => ?_)
    have hz96653 : z96653.toInt = z96652.toInt + 1 := ar_add ez96653 (rfl : z96652.toInt = z96652.toInt) (by decide : (1 : Int32).toInt = 1) (by omega) (by omega)
    have rz96653 : 1 ≤ z96653.toInt ∧ z96653.toInt ≤ 766 := by omega
    exact t_iret hQ X hT (⟨rfl, (by omega)⟩) (Nat.le_of_ble_eq_true rfl) (Nat.le_of_ble_eq_true rfl) dX4_inFront_30
  · have w96654 := cv_nle (by decide : (1 : Int32).toInt = 1) (rfl : p0.toInt = p0.toInt) c96643
    refine lv_iconst (v := 0) hx hb dX4_inFront_5 (by decide) ?_
    exact t_iret hQ X hT (⟨rfl, (by decide)⟩) (Nat.le_of_ble_eq_true rfl) (Nat.le_of_ble_eq_true rfl) dX4_inFront_6
set_option maxHeartbeats 4000000 in
set_option maxRecDepth 100000 in
theorem kt334_X0_goIn (l : Launch) (G : KG) (tag : Nat → Nat) (L : List Nat) (Fo : Nat → va_E) (ho : okT G ttC tag L Fo) (p0 : Nat) (p1 : Nat) (p2 : Nat) (p3 : Int32) (p4 : Int32) (m0 : p0 ∈ L) (g0 : tag p0 = 21) (m1 : p1 ∈ L) (g1 : tag p1 = 18) (m2 : p2 ∈ L) (g2 : tag p2 = 19) (h3 : 0 ≤ p3.toInt ∧ p3.toInt ≤ 3) (h4 : (-2147483648) ≤ p4.toInt ∧ p4.toInt ≤ 7) : TMv l yX0_goIn cX0_goIn 10 { frames := 4, cells := 0, slots := 0, locals := 92 } G ttC tag L Fo [.ref p0, .ref p1, .ref p2, .int p3, .int p4] (fun F1 => ((∀ b j : Nat, (tag b ≠ 21 ∨ j ≠ 0) → (tag b ≠ 21 ∨ j ≠ 1) → fld F1 b j = fld Fo b j) ∧ EF tag F1 Fo)) := by
  refine t_bodyv (y := yX0_goIn) (cd := cX0_goIn) (mL := 10) (rm := { frames := 4, cells := 0, slots := 0, locals := 92 }) (av := [.ref p0, .ref p1, .ref p2, .int p3, .int p4]) (by decide) (Nat.le_of_ble_eq_true rfl) ho ?_
  intro p e s m args below meth c ls A Q hQ X hT hl
  have hx := X.1.1
  have hb := X.1.2.1
  have hl : lv_has ls 10 [(0, .ref p0), (1, .ref p1), (2, .ref p2), (3, .int p3), (4, .int p4)] := hl
  obtain ⟨F, hFo⟩ : ∃ F : Nat → va_E, F = Fo := ⟨_, rfl⟩
  rw [← hFo] at hT
  have hfr : (∀ b j : Nat, (tag b ≠ 21 ∨ j ≠ 0) → (tag b ≠ 21 ∨ j ≠ 1) → fld F b j = fld Fo b j) ∧ EF tag F Fo := by
    rw [hFo]
    exact ⟨by intros; rfl, fun _ _ _ => rfl⟩
  have K127 : ∀ (z98016 : Int32) (z98017 : Int32) (z98018 : Int32) (z98019 : Int32) (F : Nat → va_E) (H : Heap) (locs : List Loc) (ls : Array Slot), (0 ≤ z98019.toInt ∧ z98019.toInt ≤ 48) → TH G ttC A s tag L F H locs → ((∀ b j : Nat, (tag b ≠ 21 ∨ j ≠ 0) → (tag b ≠ 21 ∨ j ≠ 1) → fld F b j = fld Fo b j) ∧ EF tag F Fo) → lv_has ls 10 [(0, .ref p0), (1, .ref p1), (2, .ref p2), (3, .int p3), (4, .int p4), (5, .int z98016), (6, .int z98017), (7, .int z98018), (8, .int z98019)] → W p l e { frames := 4, cells := 0, slots := 0, locals := 92 } s m args below meth c H locs 0 0 Q (F0 m 127 ls []) := by
    intro z98016 z98017 z98018 z98019 F H locs ls rz98019 hT hfr hl
    have rz98016 := rg_all z98016
    have rz98017 := rg_all z98017
    have rz98018 := rg_all z98018
    refine lv_aload_n hx hb dX0_goIn_127 rfl (lv_at hl 0 rfl) ?_
    refine t_get (C := RX0) (T := TX0) (N := 2) X hT m0 g0 rfl rfl 0 (by decide) qw_88 inlX0 rfl dX0_goIn_128 (fun v98020 hv98020 ov98020 => ?_)
    obtain ⟨b98021, rfl, mb98021, gb98021⟩ := okV_r ov98020
    have gb98021 : tag b98021 = 12 := tg_of gb98021
    refine lv_astore (lv' := [(8, .ref b98021), (0, .ref p0), (1, .ref p1), (2, .ref p2), (3, .int p3), (4, .int p4), (5, .int z98016), (6, .int z98017), (7, .int z98018)]) hx hb dX0_goIn_131 hl (by decide) rfl (fun ls hl => ?_)
    refine lv_aload_n hx hb dX0_goIn_133 rfl (lv_at hl 1 rfl) ?_
    refine lv_aload_n hx hb dX0_goIn_134 rfl (lv_at hl 1 rfl) ?_
    refine t_get (C := RX0) (T := TX0) (N := 2) X hT m0 g0 rfl rfl 1 (by decide) qw_89 inlX0 rfl dX0_goIn_135 (fun v98022 hv98022 ov98022 => ?_)
    obtain ⟨b98023, rfl, mb98023, gb98023⟩ := okV_r ov98022
    have gb98023 : tag b98023 = 12 := tg_of gb98023
    refine t_put (C := RX0) (T := TX0) (N := 2) (v := .ref b98023) X hT m0 g0 rfl tyX0 tyX0_ok nmX0 rfl 0 (by decide) qw_88 inlX0 rfl (by first | rfl | decide) (by first | rfl | decide) rfl (⟨_, rfl, mb98023, by rw [gb98023]; rfl⟩) dX0_goIn_138 (fun F H locs hT v98024 h1v98024 h2v98024 => ?_)
    have hv98022 := (h1v98024 _ _ (Or.inr (by decide))).trans hv98022
    have hfr : (∀ b j : Nat, (tag b ≠ 21 ∨ j ≠ 0) → (tag b ≠ 21 ∨ j ≠ 1) → fld F b j = fld Fo b j) ∧ EF tag F Fo := ⟨fun b j n21_0 n21_1 => (h1v98024 b j (fr_ne g0 n21_0)).trans (hfr.1 b j n21_0 n21_1), fun b j hb => (h2v98024 b j).trans (hfr.2 b j hb)⟩
    refine lv_aload_n hx hb dX0_goIn_141 rfl (lv_at hl 1 rfl) ?_
    refine lv_aload hx hb dX0_goIn_142 (lv_at hl 0 rfl) ?_
    refine t_put (C := RX0) (T := TX0) (N := 2) (v := .ref b98021) X hT m0 g0 rfl tyX0 tyX0_ok nmX0 rfl 1 (by decide) qw_89 inlX0 rfl (by first | rfl | decide) (by first | rfl | decide) rfl (⟨_, rfl, mb98021, by rw [gb98021]; rfl⟩) dX0_goIn_144 (fun F H locs hT v98025 h1v98025 h2v98025 => ?_)
    have v98024 := (h1v98025 _ _ (Or.inr (by decide))).trans v98024
    have hfr : (∀ b j : Nat, (tag b ≠ 21 ∨ j ≠ 0) → (tag b ≠ 21 ∨ j ≠ 1) → fld F b j = fld Fo b j) ∧ EF tag F Fo := ⟨fun b j n21_0 n21_1 => (h1v98025 b j (fr_ne g0 n21_1)).trans (hfr.1 b j n21_0 n21_1), fun b j hb => (h2v98025 b j).trans (hfr.2 b j hb)⟩
    exact t_vret hQ X hT hfr (Nat.le_of_ble_eq_true rfl) (Nat.le_of_ble_eq_true rfl) dX0_goIn_147
  have K43 : ∀ (n : Nat) (z98026 : Int32) (z98027 : Int32) (z98028 : Int32) (z98029 : Int32) (F : Nat → va_E) (H : Heap) (locs : List Loc) (ls : Array Slot), (48 - z98029.toInt < (n : Int)) → (0 ≤ z98029.toInt ∧ z98029.toInt ≤ 48) → TH G ttC A s tag L F H locs → ((∀ b j : Nat, (tag b ≠ 21 ∨ j ≠ 0) → (tag b ≠ 21 ∨ j ≠ 1) → fld F b j = fld Fo b j) ∧ EF tag F Fo) → lv_has ls 10 [(0, .ref p0), (1, .ref p1), (2, .ref p2), (3, .int p3), (4, .int p4), (5, .int z98026), (6, .int z98027), (7, .int z98028), (8, .int z98029)] → W p l e { frames := 4, cells := 0, slots := 0, locals := 92 } s m args below meth c H locs 0 0 Q (F0 m 43 ls []) := by
    intro n
    induction n with
    | zero =>
      intro z98026 z98027 z98028 z98029 F H locs ls hn rz98029 hT hfr hl
      have rz98026 := rg_all z98026
      have rz98027 := rg_all z98027
      have rz98028 := rg_all z98028
      exfalso
      omega
    | succ n ih43 =>
      intro z98026 z98027 z98028 z98029 F H locs ls hn rz98029 hT hfr hl
      have rz98026 := rg_all z98026
      have rz98027 := rg_all z98027
      have rz98028 := rg_all z98028
      have K121 : ∀ (z98031 : Int32) (F : Nat → va_E) (H : Heap) (locs : List Loc) (ls : Array Slot), (0 ≤ z98031.toInt ∧ z98031.toInt ≤ 766) → (0 ≤ z98029.toInt ∧ z98029.toInt ≤ 47) → TH G ttC A s tag L F H locs → ((∀ b j : Nat, (tag b ≠ 21 ∨ j ≠ 0) → (tag b ≠ 21 ∨ j ≠ 1) → fld F b j = fld Fo b j) ∧ EF tag F Fo) → lv_has ls 10 [(0, .ref p0), (1, .ref p1), (2, .ref p2), (3, .int p3), (4, .int p4), (5, .int z98026), (6, .int z98027), (7, .int z98028), (8, .int z98029), (9, .int z98031)] → W p l e { frames := 4, cells := 0, slots := 0, locals := 92 } s m args below meth c H locs 0 0 Q (F0 m 121 ls []) := by
        intro z98031 F H locs ls rz98031 r9s98030 hT hfr hl
        obtain ⟨z98032, ez98032⟩ : ∃ y : Int32, y = z98029 + 1 := ⟨_, rfl⟩
        have hz98032 : z98032.toInt = z98029.toInt + 1 := ar_add ez98032 rfl (by decide : (1 : Int32).toInt = 1) (by omega) (by omega)
        refine lv_iinc (v := z98032) (lv' := [(8, .int z98032), (0, .ref p0), (1, .ref p1), (2, .ref p2), (3, .int p3), (4, .int p4), (5, .int z98026), (6, .int z98027), (7, .int z98028), (9, .int z98031)]) hx hb dX0_goIn_121 hl (k := 8) rfl (by rw [ez98032]; rfl) (by decide) rfl (fun ls hl => ?_)
        refine lv_goto (tgt := 43) hx hb dX0_goIn_124 (by decide) ?_
        exact ih43 z98026 z98027 z98028 z98032 _ _ _ _ (by omega) (by omega) hT hfr  (lv_sub hl [1, 2, 3, 4, 5, 6, 7, 8, 0] rfl)
      have K119 : ∀ (z98034 : Int32) (z98035 : Int32) (z98036 : Int32) (z98037 : Int32) (b98038 : Nat) (F : Nat → va_E) (H : Heap) (locs : List Loc) (ls : Array Slot), (0 ≤ z98034.toInt ∧ z98034.toInt ≤ 47) → (0 ≤ z98037.toInt ∧ z98037.toInt ≤ 47) → (b98038 ∈ L) → (tag b98038 = 12) → (0 ≤ z98029.toInt ∧ z98029.toInt ≤ 47) → TH G ttC A s tag L F H locs → ((∀ b j : Nat, (tag b ≠ 21 ∨ j ≠ 0) → (tag b ≠ 21 ∨ j ≠ 1) → fld F b j = fld Fo b j) ∧ EF tag F Fo) → lv_has ls 10 [(0, .ref p0), (1, .ref p1), (2, .ref p2), (3, .int p3), (4, .int p4), (5, .int z98026), (6, .int z98027), (7, .int z98028), (8, .int z98029), (9, .int z98034)] → W p l e { frames := 4, cells := 0, slots := 0, locals := 92 } s m args below meth c H locs 0 0 Q (F0 m 119 ls [.int z98035, .int z98036, .int z98037, .ref b98038]) := by
        intro z98034 z98035 z98036 z98037 b98038 F H locs ls rz98034 rz98037 mb98038 gb98038 r9s98033 hT hfr hl
        have rz98035 := rg_all z98035
        have rz98036 := rg_all z98036
        refine lv_iadd hx hb dX0_goIn_119 ?_
        refine lv_topi (fun z98039 ez98039 => ?_)
        have rz98039 := rg_all z98039
        refine t_ist X hT mb98038 gb98038 rfl (by omega) (show (-2147483648) ≤ (z98039 : Int32).toInt ∧ (z98039 : Int32).toInt ≤ 2147483647 from (by omega)) dX0_goIn_120 (fun F H locs hT v98040 h1v98040 h2v98040 => ?_)
        have hfr : (∀ b j : Nat, (tag b ≠ 21 ∨ j ≠ 0) → (tag b ≠ 21 ∨ j ≠ 1) → fld F b j = fld Fo b j) ∧ EF tag F Fo := ⟨fun b j n21_0 n21_1 => (h2v98040 b j).trans (hfr.1 b j n21_0 n21_1), fun b j hb => (h1v98040 b j (Or.inl (ns_ne hb gb98038 (by decide)))).trans (hfr.2 b j hb)⟩
        exact K121 z98034 _ _ _ _ (by omega) (by omega) hT hfr  (lv_sub hl [0, 1, 2, 3, 4, 5, 6, 7, 8, 9] rfl)
      refine lv_iload hx hb dX0_goIn_43 (lv_at hl 8 rfl) ?_
      refine lv_bipush (v := 8) hx hb dX0_goIn_45 (by decide) ?_
      refine lv_iload hx hb dX0_goIn_47 (lv_at hl 4 rfl) ?_
      refine lv_imul hx hb dX0_goIn_49 ?_
      refine lv_topi (fun z98041 ez98041 => ?_)
      have rz98041 := rg_all z98041
      refine lv_icmp_ge (tgt := 127) hx hb dX0_goIn_50 (by decide) (fun c98042 => ?_) (fun c98042 => ?_)
      · have w98043 := cv_le (rfl : z98041.toInt = z98041.toInt) (rfl : z98029.toInt = z98029.toInt) c98042
        exact K127 z98026 z98027 z98028 z98029 _ _ _ _ (by omega) hT hfr  (lv_sub hl [0, 1, 2, 3, 4, 5, 6, 7, 8] rfl)
      · have w98044 := cv_nle (rfl : z98041.toInt = z98041.toInt) (rfl : z98029.toInt = z98029.toInt) c98042
        refine lv_iload hx hb dX0_goIn_53 (lv_at hl 8 rfl) ?_
        refine lv_aload_n hx hb dX0_goIn_55 rfl (lv_at hl 0 rfl) ?_
        refine t_get (C := RX0) (T := TX0) (N := 2) X hT m0 g0 rfl rfl 1 (by decide) qw_89 inlX0 rfl dX0_goIn_56 (fun v98045 hv98045 ov98045 => ?_)
        obtain ⟨b98046, rfl, mb98046, gb98046⟩ := okV_r ov98045
        have gb98046 : tag b98046 = 12 := tg_of gb98046
        refine t_alen X hT mb98046 gb98046 rfl (by decide) dX0_goIn_59 ?_
        refine lv_topi (fun z98047 ez98047 => ?_)
        obtain rfl : z98047 = 48 := ez98047.trans (by rfl)
        refine lv_icmp_ge (tgt := 127) hx hb dX0_goIn_60 (by decide) (fun c98048 => ?_) (fun c98048 => ?_)
        · have w98049 := cv_le (by decide : (48 : Int32).toInt = 48) (rfl : z98029.toInt = z98029.toInt) c98048
          exact K127 z98026 z98027 z98028 z98029 _ _ _ _ (by omega) hT hfr  (lv_sub hl [0, 1, 2, 3, 4, 5, 6, 7, 8] rfl)
        · have w98050 := cv_nle (by decide : (48 : Int32).toInt = 48) (rfl : z98029.toInt = z98029.toInt) c98048
          refine lv_iload hx hb dX0_goIn_63 (lv_at hl 4 rfl) ?_
          refine lv_iload hx hb dX0_goIn_65 (lv_at hl 8 rfl) ?_
          refine t_cSi (n := 2) (As := [.int p4, .int z98029]) (rest := []) X hT (kt333_X4_inFront l G tag L F hT.2.2.2 p4 z98029 (by omega) (by omega)) qw_1044 qw_923 qw_409 qw_924 ⟨by decide +kernel, by decide +kernel, by decide +kernel⟩ ⟨Nat.le_of_ble_eq_true rfl, Nat.le_of_ble_eq_true rfl⟩ hl rfl rfl (Nat.le_of_ble_eq_true rfl) dX0_goIn_67 ⟨Nat.le_of_ble_eq_true rfl, Nat.le_of_ble_eq_true rfl⟩ (fun z98051 F9 H locs hT hz98051 => ?_)
          obtain ⟨fz98051, hz98051⟩ := hz98051
          rw [fz98051] at hT
          refine lv_istore (lv' := [(9, .int z98051), (0, .ref p0), (1, .ref p1), (2, .ref p2), (3, .int p3), (4, .int p4), (5, .int z98026), (6, .int z98027), (7, .int z98028), (8, .int z98029)]) hx hb dX0_goIn_70 hl (by decide) rfl (fun ls hl => ?_)
          refine lv_iload hx hb dX0_goIn_72 (lv_at hl 5 rfl) ?_
          refine lv_iload hx hb dX0_goIn_74 (lv_at hl 9 rfl) ?_
          refine t_cSi (n := 2) (As := [.int p4, .int z98029]) (rest := []) X hT (kt297_X4_isCorner l G tag L F hT.2.2.2 p4 z98029 ) qw_1045 qw_1046 qw_409 qw_1047 ⟨by decide +kernel, by decide +kernel, by decide +kernel⟩ ⟨Nat.le_of_ble_eq_true rfl, Nat.le_of_ble_eq_true rfl⟩ hl rfl rfl (Nat.le_of_ble_eq_true rfl) dX0_goIn_76 ⟨Nat.le_of_ble_eq_true rfl, Nat.le_of_ble_eq_true rfl⟩ (fun z98052 F9 H locs hT hz98052 => ?_)
          obtain ⟨fz98052, hz98052⟩ := hz98052
          rw [fz98052] at hT
          refine lv_if_ne (tgt := 121) hx hb dX0_goIn_79 (by decide) (fun c98053 => ?_) (fun c98053 => ?_)
          · have w98054 := cv_ne (rfl : z98052.toInt = z98052.toInt) (by decide : (0 : Int32).toInt = 0) c98053
            exact K121 z98051 _ _ _ _ (by omega) (by omega) hT hfr  (lv_sub hl [1, 2, 3, 4, 5, 6, 7, 8, 9, 0] rfl)
          · have w98055 := cv_eq (rfl : z98052.toInt = z98052.toInt) (by decide : (0 : Int32).toInt = 0) c98053
            refine lv_iload hx hb dX0_goIn_82 (lv_at hl 0 rfl) ?_
            refine lv_aload_n hx hb dX0_goIn_84 rfl (lv_at hl 1 rfl) ?_
            refine t_get (C := RX0) (T := TX0) (N := 2) X hT m0 g0 rfl rfl 0 (by decide) qw_88 inlX0 rfl dX0_goIn_85 (fun v98056 hv98056 ov98056 => ?_)
            obtain ⟨b98057, rfl, mb98057, gb98057⟩ := okV_r ov98056
            have gb98057 : tag b98057 = 12 := tg_of gb98057
            refine t_alen X hT mb98057 gb98057 rfl (by decide) dX0_goIn_88 ?_
            refine lv_topi (fun z98058 ez98058 => ?_)
            obtain rfl : z98058 = 48 := ez98058.trans (by rfl)
            refine lv_icmp_ge (tgt := 121) hx hb dX0_goIn_89 (by decide) (fun c98059 => ?_) (fun c98059 => ?_)
            · have w98060 := cv_le (by decide : (48 : Int32).toInt = 48) (rfl : z98051.toInt = z98051.toInt) c98059
              exact K121 z98051 _ _ _ _ (by omega) (by omega) hT hfr  (lv_sub hl [1, 2, 3, 4, 5, 6, 7, 8, 9, 0] rfl)
            · have w98061 := cv_nle (by decide : (48 : Int32).toInt = 48) (rfl : z98051.toInt = z98051.toInt) c98059
              refine lv_aload_n hx hb dX0_goIn_92 rfl (lv_at hl 1 rfl) ?_
              refine t_get (C := RX0) (T := TX0) (N := 2) X hT m0 g0 rfl rfl 1 (by decide) qw_89 inlX0 rfl dX0_goIn_93 (fun v98062 hv98062 ov98062 => ?_)
              obtain rfl : v98062 = .ref b98046 := hv98062.symm.trans hv98045
              refine lv_iload hx hb dX0_goIn_96 (lv_at hl 9 rfl) ?_
              refine lv_aload_n hx hb dX0_goIn_98 rfl (lv_at hl 1 rfl) ?_
              refine t_get (C := RX0) (T := TX0) (N := 2) X hT m0 g0 rfl rfl 0 (by decide) qw_88 inlX0 rfl dX0_goIn_99 (fun v98063 hv98063 ov98063 => ?_)
              obtain rfl : v98063 = .ref b98057 := hv98063.symm.trans hv98056
              refine lv_iload hx hb dX0_goIn_102 (lv_at hl 0 rfl) ?_
              refine t_ild X hT mb98057 gb98057 rfl (by omega) dX0_goIn_104 (fun z98064 vz98064 rz98064 => ?_)
              have rz98064 : (-2147483648) ≤ z98064.toInt ∧ z98064.toInt ≤ 2147483647 := rz98064
              refine lv_iload hx hb dX0_goIn_105 (lv_at hl 9 rfl) ?_
              refine lv_iload hx hb dX0_goIn_107 (lv_at hl 6 rfl) ?_
              refine lv_icmp_ne (tgt := 117) hx hb dX0_goIn_109 (by decide) (fun c98065 => ?_) (fun c98065 => ?_)
              · have w98066 := cv_ne (rfl : z98029.toInt = z98029.toInt) (rfl : z98026.toInt = z98026.toInt) c98065
                refine lv_iload hx hb dX0_goIn_117 (lv_at hl 7 rfl) ?_
                exact K119 z98051 z98027 z98064 z98029 b98046 _ _ _ _ (by omega) (by omega) mb98046 gb98046 (by omega) hT hfr  (lv_sub hl [1, 2, 3, 4, 5, 6, 7, 8, 9, 0] rfl)
              · have w98067 := cv_eq (rfl : z98029.toInt = z98029.toInt) (rfl : z98026.toInt = z98026.toInt) c98065
                refine lv_iload hx hb dX0_goIn_112 (lv_at hl 8 rfl) ?_
                refine lv_goto (tgt := 119) hx hb dX0_goIn_114 (by decide) ?_
                exact K119 z98051 z98028 z98064 z98029 b98046 _ _ _ _ (by omega) (by omega) mb98046 gb98046 (by omega) hT hfr  (lv_sub hl [1, 2, 3, 4, 5, 6, 7, 8, 9, 0] rfl)
  refine lv_aload_n hx hb dX0_goIn_0 rfl (lv_at hl 2 rfl) ?_
  refine lv_iload_n hx hb dX0_goIn_1 rfl (lv_at hl 3 rfl) ?_
  refine lv_iload hx hb dX0_goIn_2 (lv_at hl 4 rfl) ?_
  refine t_cVi (n := 2) (C := RX7) (T := TX7) (N := 7) (As := [.int p3, .int p4]) (rest := []) X hT (kt318_X7_doorOf l G tag L F hT.2.2.2 p2 p3 p4 m2 g2) m2 g2 rfl rfl qw_1024 qw_918 qw_919 qw_22 qw_920 ⟨rfl, by decide +kernel, by decide +kernel, by decide +kernel⟩ ⟨Nat.le_of_ble_eq_true rfl, Nat.le_of_ble_eq_true rfl⟩ hl rfl rfl (Nat.le_of_ble_eq_true rfl) dX0_goIn_4 ⟨Nat.le_of_ble_eq_true rfl, Nat.le_of_ble_eq_true rfl⟩ (fun z98068 F9 H locs hT hz98068 => ?_)
  obtain ⟨fz98068, hz98068⟩ := hz98068
  rw [fz98068] at hT
  refine lv_istore (lv' := [(5, .int z98068), (0, .ref p0), (1, .ref p1), (2, .ref p2), (3, .int p3), (4, .int p4)]) hx hb dX0_goIn_7 hl (by decide) rfl (fun ls hl => ?_)
  refine lv_aload_n hx hb dX0_goIn_9 rfl (lv_at hl 2 rfl) ?_
  refine lv_aload_n hx hb dX0_goIn_10 rfl (lv_at hl 3 rfl) ?_
  refine lv_iload_n hx hb dX0_goIn_11 rfl (lv_at hl 4 rfl) ?_
  refine lv_iload hx hb dX0_goIn_12 (lv_at hl 5 rfl) ?_
  refine t_cSi (n := 4) (As := [.ref p1, .ref p2, .int p3, .int p4]) (rest := []) X hT (kt329_X0_byWall l G tag L F hT.2.2.2 p1 p2 p3 p4 m1 g1 m2 g2) qw_1031 qw_1032 qw_36 qw_1033 ⟨by decide +kernel, by decide +kernel, by decide +kernel⟩ ⟨Nat.le_of_ble_eq_true rfl, Nat.le_of_ble_eq_true rfl⟩ hl rfl rfl (Nat.le_of_ble_eq_true rfl) dX0_goIn_14 ⟨Nat.le_of_ble_eq_true rfl, Nat.le_of_ble_eq_true rfl⟩ (fun z98069 F9 H locs hT hz98069 => ?_)
  obtain ⟨fz98069, hz98069⟩ := hz98069
  rw [fz98069] at hT
  refine lv_istore (lv' := [(6, .int z98069), (5, .int z98068), (0, .ref p0), (1, .ref p1), (2, .ref p2), (3, .int p3), (4, .int p4)]) hx hb dX0_goIn_17 hl (by decide) rfl (fun ls hl => ?_)
  refine lv_iload hx hb dX0_goIn_19 (lv_at hl 0 rfl) ?_
  refine lv_aload_n hx hb dX0_goIn_21 rfl (lv_at hl 4 rfl) ?_
  refine lv_iload_n hx hb dX0_goIn_22 rfl (lv_at hl 5 rfl) ?_
  refine lv_iload hx hb dX0_goIn_23 (lv_at hl 6 rfl) ?_
  refine t_cSi (n := 3) (As := [.ref p2, .int p3, .int p4]) (rest := [.int z98069]) X hT (kt328_X0_byDoor l G tag L F hT.2.2.2 p2 p3 p4 m2 g2) qw_1025 qw_1026 qw_36 qw_1027 ⟨by decide +kernel, by decide +kernel, by decide +kernel⟩ ⟨Nat.le_of_ble_eq_true rfl, Nat.le_of_ble_eq_true rfl⟩ hl rfl rfl (Nat.le_of_ble_eq_true rfl) dX0_goIn_25 ⟨Nat.le_of_ble_eq_true rfl, Nat.le_of_ble_eq_true rfl⟩ (fun z98070 F9 H locs hT hz98070 => ?_)
  obtain ⟨fz98070, hz98070⟩ := hz98070
  rw [fz98070] at hT
  refine t_mmin X hl qw_1017 qw_1018 qw_850 qw_1019 (Nat.le_of_ble_eq_true rfl) (Nat.le_of_ble_eq_true rfl) (Nat.le_of_ble_eq_true rfl) (Nat.le_of_ble_eq_true rfl) dX0_goIn_28 (fun z98071 ez98071 => ?_)
  have hz98071 := mmin_e ez98071 (rfl : z98069.toInt = z98069.toInt) (rfl : z98070.toInt = z98070.toInt)
  refine lv_istore (lv' := [(7, .int z98071), (6, .int z98069), (5, .int z98068), (0, .ref p0), (1, .ref p1), (2, .ref p2), (3, .int p3), (4, .int p4)]) hx hb dX0_goIn_31 hl (by decide) rfl (fun ls hl => ?_)
  refine lv_aload_n hx hb dX0_goIn_33 rfl (lv_at hl 3 rfl) ?_
  refine t_get (C := RX0) (T := TX0) (N := 2) X hT m0 g0 rfl rfl 1 (by decide) qw_89 inlX0 rfl dX0_goIn_34 (fun v98072 hv98072 ov98072 => ?_)
  obtain ⟨b98073, rfl, mb98073, gb98073⟩ := okV_r ov98072
  have gb98073 : tag b98073 = 12 := tg_of gb98073
  refine t_cSv (n := 1) (As := [.ref b98073]) (rest := []) X hT (kt330_X0_empty l G tag L F hT.2.2.2 b98073 mb98073 gb98073) qw_1020 qw_1021 qw_36 qw_1022 ⟨by decide +kernel, by decide +kernel, by decide +kernel⟩ ⟨Nat.le_of_ble_eq_true rfl, Nat.le_of_ble_eq_true rfl⟩ hl rfl rfl (Nat.le_of_ble_eq_true rfl) dX0_goIn_37 ⟨Nat.le_of_ble_eq_true rfl, Nat.le_of_ble_eq_true rfl⟩ (fun F H locs hT hz98074 => ?_)
  have yz98074 := hz98074
  have hv98072 := (yz98074.1 _ 1 ).trans hv98072
  have hfr : (∀ b j : Nat, (tag b ≠ 21 ∨ j ≠ 0) → (tag b ≠ 21 ∨ j ≠ 1) → fld F b j = fld Fo b j) ∧ EF tag F Fo := ⟨fun b j n21_0 n21_1 => (yz98074.1 b j ).trans (hfr.1 b j n21_0 n21_1), fun b j hb => (yz98074.2 b j hb).trans (hfr.2 b j hb)⟩
  refine lv_iconst (v := 0) hx hb dX0_goIn_40 (by decide) ?_
  refine lv_istore (lv' := [(8, .int 0), (7, .int z98071), (6, .int z98069), (5, .int z98068), (0, .ref p0), (1, .ref p1), (2, .ref p2), (3, .int p3), (4, .int p4)]) hx hb dX0_goIn_41 hl (by decide) rfl (fun ls hl => ?_)
  have kk98075 : (0 : Int32).toInt = 0 := by decide
  exact K43 49 z98068 z98069 z98071 0 _ _ _ _ (by omega) (by decide) hT hfr  (lv_sub hl [4, 5, 6, 7, 8, 3, 2, 1, 0] rfl)
