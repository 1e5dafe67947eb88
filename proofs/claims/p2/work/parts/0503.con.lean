set_option maxHeartbeats 4000000 in
set_option maxRecDepth 100000 in
theorem kt32_X6_isMet (l : Launch) (G : KG) (tag : Nat → Nat) (L : List Nat) (F : Nat → va_E) (ho : okT G ttC tag L F) (p0 : Nat) (p1 : Nat) (p2 : Int32) (p3 : Int32) (m0 : p0 ∈ L) (g0 : tag p0 = 18) (m1 : p1 ∈ L) (g1 : tag p1 = 19) (h2 : 0 ≤ p2.toInt ∧ p2.toInt ≤ 3) (h3 : 0 ≤ p3.toInt ∧ p3.toInt ≤ 3) : TMi l yX6_isMet cX6_isMet 7 (some .boolean) { frames := 1, cells := 0, slots := 0, locals := 13 } G ttC tag L F [.ref p0, .ref p1, .int p2, .int p3] (fun r F1 => F1 = F ∧ (0 ≤ r.toInt ∧ r.toInt ≤ 1)) := by
  refine t_bodyi (y := yX6_isMet) (cd := cX6_isMet) (mL := 7) (rt := (some .boolean)) (rm := { frames := 1, cells := 0, slots := 0, locals := 13 }) (av := [.ref p0, .ref p1, .int p2, .int p3]) (by decide) (Nat.le_of_ble_eq_true rfl) ho ?_
  intro p e s m args below meth c ls A Q hQ X hT hl
  have hx := X.1.1
  have hb := X.1.2.1
  have hl : lv_has ls 7 [(0, .ref p0), (1, .ref p1), (2, .int p2), (3, .int p3)] := hl
  refine lv_aload_n hx hb dX6_isMet_0 rfl (lv_at hl 1 rfl) ?_
  refine t_get (C := RX7) (T := TX7) (N := 7) X hT m1 g1 rfl rfl 2 (by decide) qw_383 inlX7 rfl dX6_isMet_1 (fun v8418 hv8418 ov8418 => ?_)
  obtain ⟨b8419, rfl, mb8419, gb8419⟩ := okV_r ov8418
  have gb8419 : tag b8419 = 8 := tg_of gb8419
  refine lv_iload_n hx hb dX6_isMet_4 rfl (lv_at hl 2 rfl) ?_
  refine t_ild X hT mb8419 gb8419 rfl (by omega) dX6_isMet_5 (fun z8420 vz8420 rz8420 => ?_)
  have rz8420 : 0 ≤ z8420.toInt ∧ z8420.toInt ≤ 6 := rz8420
  refine lv_aload_n hx hb dX6_isMet_6 rfl (lv_at hl 1 rfl) ?_
  refine t_get (C := RX7) (T := TX7) (N := 7) X hT m1 g1 rfl rfl 2 (by decide) qw_383 inlX7 rfl dX6_isMet_7 (fun v8421 hv8421 ov8421 => ?_)
  obtain rfl : v8421 = .ref b8419 := hv8421.symm.trans hv8418
  refine lv_iload_n hx hb dX6_isMet_10 rfl (lv_at hl 3 rfl) ?_
  refine t_ild X hT mb8419 gb8419 rfl (by omega) dX6_isMet_11 (fun z8422 vz8422 rz8422 => ?_)
  have rz8422 : 0 ≤ z8422.toInt ∧ z8422.toInt ≤ 6 := rz8422
  refine lv_iadd hx hb dX6_isMet_12 ?_
  refine lv_topi (fun z8423 ez8423 => ?_)
  have hz8423 : z8423.toInt = z8420.toInt + z8422.toInt := ar_add ez8423 (rfl : z8420.toInt = z8420.toInt) (rfl : z8422.toInt = z8422.toInt) (by omega) (by omega)
  have rz8423 : 0 ≤ z8423.toInt ∧ z8423.toInt ≤ 12 := by omega
  refine lv_istore (lv' := [(4, .int z8423), (0, .ref p0), (1, .ref p1), (2, .int p2), (3, .int p3)]) hx hb dX6_isMet_13 hl (by decide) rfl (fun ls hl => ?_)
  refine lv_aload_n hx hb dX6_isMet_15 rfl (lv_at hl 1 rfl) ?_
  refine t_get (C := RX1) (T := TX1) (N := 20) X hT m0 g0 rfl rfl 11 (by decide) qw_405 inlX1 rfl dX6_isMet_16 (fun v8424 hv8424 ov8424 => ?_)
  obtain ⟨b8425, rfl, mb8425, gb8425⟩ := okV_r ov8424
  have gb8425 : tag b8425 = 4 := tg_of gb8425
  refine lv_iload_n hx hb dX6_isMet_19 rfl (lv_at hl 3 rfl) ?_
  refine t_ild X hT mb8425 gb8425 rfl (by omega) dX6_isMet_20 (fun z8426 vz8426 rz8426 => ?_)
  have rz8426 : 0 ≤ z8426.toInt ∧ z8426.toInt ≤ 11 := rz8426
  refine lv_aload_n hx hb dX6_isMet_21 rfl (lv_at hl 1 rfl) ?_
  refine t_get (C := RX1) (T := TX1) (N := 20) X hT m0 g0 rfl rfl 11 (by decide) qw_405 inlX1 rfl dX6_isMet_22 (fun v8427 hv8427 ov8427 => ?_)
  obtain rfl : v8427 = .ref b8425 := hv8427.symm.trans hv8424
  refine lv_iload_n hx hb dX6_isMet_25 rfl (lv_at hl 4 rfl) ?_
  refine t_ild X hT mb8425 gb8425 rfl (by omega) dX6_isMet_26 (fun z8428 vz8428 rz8428 => ?_)
  have rz8428 : 0 ≤ z8428.toInt ∧ z8428.toInt ≤ 11 := rz8428
  refine lv_isub hx hb dX6_isMet_27 ?_
  refine lv_topi (fun z8429 ez8429 => ?_)
  have hz8429 : z8429.toInt = z8426.toInt - z8428.toInt := ar_sub ez8429 (rfl : z8426.toInt = z8426.toInt) (rfl : z8428.toInt = z8428.toInt) (by omega) (by omega)
  have rz8429 : (-11) ≤ z8429.toInt ∧ z8429.toInt ≤ 11 := by omega
  refine t_mabs X hl qw_1200 qw_1201 qw_850 qw_1202 (Nat.le_of_ble_eq_true rfl) (Nat.le_of_ble_eq_true rfl) (Nat.le_of_ble_eq_true rfl) (Nat.le_of_ble_eq_true rfl) dX6_isMet_28 (fun z8430 ez8430 => ?_)
  have hz8430 := mabs_e ez8430 (rfl : z8429.toInt = z8429.toInt) (by omega)
  refine lv_istore (lv' := [(5, .int z8430), (4, .int z8423), (0, .ref p0), (1, .ref p1), (2, .int p2), (3, .int p3)]) hx hb dX6_isMet_31 hl (by decide) rfl (fun ls hl => ?_)
  refine lv_aload_n hx hb dX6_isMet_33 rfl (lv_at hl 2 rfl) ?_
  refine t_get (C := RX1) (T := TX1) (N := 20) X hT m0 g0 rfl rfl 12 (by decide) qw_406 inlX1 rfl dX6_isMet_34 (fun v8431 hv8431 ov8431 => ?_)
  obtain ⟨b8432, rfl, mb8432, gb8432⟩ := okV_r ov8431
  have gb8432 : tag b8432 = 4 := tg_of gb8432
  refine lv_iload_n hx hb dX6_isMet_37 rfl (lv_at hl 4 rfl) ?_
  refine t_ild X hT mb8432 gb8432 rfl (by omega) dX6_isMet_38 (fun z8433 vz8433 rz8433 => ?_)
  have rz8433 : 0 ≤ z8433.toInt ∧ z8433.toInt ≤ 11 := rz8433
  refine lv_aload_n hx hb dX6_isMet_39 rfl (lv_at hl 2 rfl) ?_
  refine t_get (C := RX1) (T := TX1) (N := 20) X hT m0 g0 rfl rfl 12 (by decide) qw_406 inlX1 rfl dX6_isMet_40 (fun v8434 hv8434 ov8434 => ?_)
  obtain rfl : v8434 = .ref b8432 := hv8434.symm.trans hv8431
  refine lv_iload_n hx hb dX6_isMet_43 rfl (lv_at hl 5 rfl) ?_
  refine t_ild X hT mb8432 gb8432 rfl (by omega) dX6_isMet_44 (fun z8435 vz8435 rz8435 => ?_)
  have rz8435 : 0 ≤ z8435.toInt ∧ z8435.toInt ≤ 11 := rz8435
  refine lv_isub hx hb dX6_isMet_45 ?_
  refine lv_topi (fun z8436 ez8436 => ?_)
  have hz8436 : z8436.toInt = z8433.toInt - z8435.toInt := ar_sub ez8436 (rfl : z8433.toInt = z8433.toInt) (rfl : z8435.toInt = z8435.toInt) (by omega) (by omega)
  have rz8436 : (-11) ≤ z8436.toInt ∧ z8436.toInt ≤ 11 := by omega
  refine t_mabs X hl qw_1200 qw_1201 qw_850 qw_1202 (Nat.le_of_ble_eq_true rfl) (Nat.le_of_ble_eq_true rfl) (Nat.le_of_ble_eq_true rfl) (Nat.le_of_ble_eq_true rfl) dX6_isMet_46 (fun z8437 ez8437 => ?_)
  have hz8437 := mabs_e ez8437 (rfl : z8436.toInt = z8436.toInt) (by omega)
  refine lv_istore (lv' := [(6, .int z8437), (5, .int z8430), (4, .int z8423), (0, .ref p0), (1, .ref p1), (2, .int p2), (3, .int p3)]) hx hb dX6_isMet_49 hl (by decide) rfl (fun ls hl => ?_)
  refine lv_iload hx hb dX6_isMet_51 (lv_at hl 1 rfl) ?_
  refine lv_iload hx hb dX6_isMet_53 (lv_at hl 0 rfl) ?_
  refine t_mmax X hl qw_1203 qw_849 qw_850 qw_851 (Nat.le_of_ble_eq_true rfl) (Nat.le_of_ble_eq_true rfl) (Nat.le_of_ble_eq_true rfl) (Nat.le_of_ble_eq_true rfl) dX6_isMet_55 (fun z8438 ez8438 => ?_)
  have hz8438 := mmax_e ez8438 (rfl : z8430.toInt = z8430.toInt) (rfl : z8437.toInt = z8437.toInt)
  refine lv_iload hx hb dX6_isMet_58 (lv_at hl 2 rfl) ?_
  refine lv_iconst (v := 1) hx hb dX6_isMet_60 (by decide) ?_
  refine lv_iadd hx hb dX6_isMet_61 ?_
  refine lv_topi (fun z8439 ez8439 => ?_)
  have hz8439 : z8439.toInt = z8423.toInt + 1 := ar_add ez8439 (rfl : z8423.toInt = z8423.toInt) (by decide : (1 : Int32).toInt = 1) (by omega) (by omega)
  have rz8439 : 1 ≤ z8439.toInt ∧ z8439.toInt ≤ 13 := by omega
  refine lv_icmp_gt (tgt := 81) hx hb dX6_isMet_62 (by decide) (fun c8440 => ?_) (fun c8440 => ?_)
  · have w8441 := cv_lt (rfl : z8439.toInt = z8439.toInt) (rfl : z8438.toInt = z8438.toInt) c8440
    refine lv_iconst (v := 0) hx hb dX6_isMet_81 (by decide) ?_
    exact t_zret hQ X hT (by decide) (⟨rfl, (by decide)⟩) (Nat.le_of_ble_eq_true rfl) (Nat.le_of_ble_eq_true rfl) dX6_isMet_82
  · have w8442 := cv_nlt (rfl : z8439.toInt = z8439.toInt) (rfl : z8438.toInt = z8438.toInt) c8440
    refine lv_iload hx hb dX6_isMet_65 (lv_at hl 1 rfl) ?_
    refine lv_iload hx hb dX6_isMet_67 (lv_at hl 0 rfl) ?_
    refine t_mmin X hl qw_1204 qw_1018 qw_850 qw_1019 (Nat.le_of_ble_eq_true rfl) (Nat.le_of_ble_eq_true rfl) (Nat.le_of_ble_eq_true rfl) (Nat.le_of_ble_eq_true rfl) dX6_isMet_69 (fun z8443 ez8443 => ?_)
    have hz8443 := mmin_e ez8443 (rfl : z8430.toInt = z8430.toInt) (rfl : z8437.toInt = z8437.toInt)
    refine lv_iload hx hb dX6_isMet_72 (lv_at hl 2 rfl) ?_
    refine lv_icmp_gt (tgt := 81) hx hb dX6_isMet_74 (by decide) (fun c8444 => ?_) (fun c8444 => ?_)
    · have w8445 := cv_lt (rfl : z8423.toInt = z8423.toInt) (rfl : z8443.toInt = z8443.toInt) c8444
      refine lv_iconst (v := 0) hx hb dX6_isMet_81 (by decide) ?_
      exact t_zret hQ X hT (by decide) (⟨rfl, (by decide)⟩) (Nat.le_of_ble_eq_true rfl) (Nat.le_of_ble_eq_true rfl) dX6_isMet_82
    · have w8446 := cv_nlt (rfl : z8423.toInt = z8423.toInt) (rfl : z8443.toInt = z8443.toInt) c8444
      refine lv_iconst (v := 1) hx hb dX6_isMet_77 (by decide) ?_
      refine lv_goto (tgt := 82) hx hb dX6_isMet_78 (by decide) ?_
      exact t_zret hQ X hT (by decide) (⟨rfl, (by decide)⟩) (Nat.le_of_ble_eq_true rfl) (Nat.le_of_ble_eq_true rfl) dX6_isMet_82
set_option maxHeartbeats 4000000 in
set_option maxRecDepth 100000 in
theorem kt33_X6_priceOf (l : Launch) (G : KG) (tag : Nat → Nat) (L : List Nat) (F : Nat → va_E) (ho : okT G ttC tag L F) (p0 : Nat) (p1 : Nat) (p2 : Int32) (p3 : Int32) (m0 : p0 ∈ L) (g0 : tag p0 = 18) (m1 : p1 ∈ L) (g1 : tag p1 = 19) (h2 : 0 ≤ p2.toInt ∧ p2.toInt ≤ 3) : TMi l yX6_priceOf cX6_priceOf 4 (some .int) { frames := 1, cells := 0, slots := 0, locals := 23 } G ttC tag L F [.ref p0, .ref p1, .int p2, .int p3] (fun r F1 => F1 = F ∧ ((-2147483648) ≤ r.toInt ∧ r.toInt ≤ 2147483647)) := by
  refine t_bodyi (y := yX6_priceOf) (cd := cX6_priceOf) (mL := 4) (rt := (some .int)) (rm := { frames := 1, cells := 0, slots := 0, locals := 23 }) (av := [.ref p0, .ref p1, .int p2, .int p3]) (by decide) (Nat.le_of_ble_eq_true rfl) ho ?_
  intro p e s m args below meth c ls A Q hQ X hT hl
  have hx := X.1.1
  have hb := X.1.2.1
  have hl : lv_has ls 4 [(0, .ref p0), (1, .ref p1), (2, .int p2), (3, .int p3)] := hl
  have rp3 := rg_all p3
  refine lv_aload_n hx hb dX6_priceOf_0 rfl (lv_at hl 0 rfl) ?_
  refine lv_iload_n hx hb dX6_priceOf_1 rfl (lv_at hl 3 rfl) ?_
  refine lv_iconst (v := 1) hx hb dX6_priceOf_2 (by decide) ?_
  refine t_cVi (n := 2) (C := RX1) (T := TX1) (N := 20) (As := [.int p3, .int 1]) (rest := []) X hT (kt9_X1_stonePart l G tag L F hT.2.2.2 p0 p3 1 m0 g0) m0 g0 rfl rfl qw_962 qw_858 qw_859 qw_17 qw_860 ⟨rfl, by decide +kernel, by decide +kernel, by decide +kernel⟩ ⟨Nat.le_of_ble_eq_true rfl, Nat.le_of_ble_eq_true rfl⟩ hl rfl rfl (Nat.le_of_ble_eq_true rfl) dX6_priceOf_3 ⟨Nat.le_of_ble_eq_true rfl, Nat.le_of_ble_eq_true rfl⟩ (fun z8524 F9 H locs hT hz8524 => ?_)
  obtain ⟨fz8524, hz8524⟩ := hz8524
  rw [fz8524] at hT
  refine lv_bipush (v := 8) hx hb dX6_priceOf_6 (by decide) ?_
  refine lv_imul hx hb dX6_priceOf_8 ?_
  refine lv_topi (fun z8525 ez8525 => ?_)
  have rz8525 := rg_all z8525
  refine lv_aload_n hx hb dX6_priceOf_9 rfl (lv_at hl 1 rfl) ?_
  refine t_get (C := RX7) (T := TX7) (N := 7) X hT m1 g1 rfl rfl 2 (by decide) qw_383 inlX7 rfl dX6_priceOf_10 (fun v8526 hv8526 ov8526 => ?_)
  obtain ⟨b8527, rfl, mb8527, gb8527⟩ := okV_r ov8526
  have gb8527 : tag b8527 = 8 := tg_of gb8527
  refine lv_iload_n hx hb dX6_priceOf_13 rfl (lv_at hl 2 rfl) ?_
  refine t_ild X hT mb8527 gb8527 rfl (by omega) dX6_priceOf_14 (fun z8528 vz8528 rz8528 => ?_)
  have rz8528 : 0 ≤ z8528.toInt ∧ z8528.toInt ≤ 6 := rz8528
  refine lv_iconst (v := 1) hx hb dX6_priceOf_15 (by decide) ?_
  refine lv_iadd hx hb dX6_priceOf_16 ?_
  refine lv_topi (fun z8529 ez8529 => ?_)
  have hz8529 : z8529.toInt = z8528.toInt + 1 := ar_add ez8529 (rfl : z8528.toInt = z8528.toInt) (by decide : (1 : Int32).toInt = 1) (by omega) (by omega)
  have rz8529 : 1 ≤ z8529.toInt ∧ z8529.toInt ≤ 7 := by omega
  refine lv_imul hx hb dX6_priceOf_17 ?_
  refine lv_topi (fun z8530 ez8530 => ?_)
  have rz8530 := rg_all z8530
  exact t_iret hQ X hT (⟨rfl, rg_all _⟩) (Nat.le_of_ble_eq_true rfl) (Nat.le_of_ble_eq_true rfl) dX6_priceOf_18
set_option maxHeartbeats 4000000 in
set_option maxRecDepth 100000 in
theorem kt34_X0_byDoor (l : Launch) (G : KG) (tag : Nat → Nat) (L : List Nat) (F : Nat → va_E) (ho : okT G ttC tag L F) (p0 : Nat) (p1 : Int32) (p2 : Int32) (m0 : p0 ∈ L) (g0 : tag p0 = 19) : TMi l yX0_byDoor cX0_byDoor 3 (some .int) { frames := 3, cells := 0, slots := 0, locals := 68 } G ttC tag L F [.ref p0, .int p1, .int p2] (fun r F1 => F1 = F ∧ ((-2147483648) ≤ r.toInt ∧ r.toInt ≤ 2147483647)) := by
  refine t_bodyi (y := yX0_byDoor) (cd := cX0_byDoor) (mL := 3) (rt := (some .int)) (rm := { frames := 3, cells := 0, slots := 0, locals := 68 }) (av := [.ref p0, .int p1, .int p2]) (by decide) (Nat.le_of_ble_eq_true rfl) ho ?_
  intro p e s m args below meth c ls A Q hQ X hT hl
  have hx := X.1.1
  have hb := X.1.2.1
  have hl : lv_has ls 3 [(0, .ref p0), (1, .int p1), (2, .int p2)] := hl
  have rp1 := rg_all p1
  have rp2 := rg_all p2
  refine lv_aload_n hx hb dX0_byDoor_0 rfl (lv_at hl 0 rfl) ?_
  refine lv_iload_n hx hb dX0_byDoor_1 rfl (lv_at hl 1 rfl) ?_
  refine lv_iload_n hx hb dX0_byDoor_2 rfl (lv_at hl 2 rfl) ?_
  refine t_cVi (n := 2) (C := RX7) (T := TX7) (N := 7) (As := [.int p1, .int p2]) (rest := []) X hT (kt18_X7_stands l G tag L F hT.2.2.2 p0 p1 p2 m0 g0) m0 g0 rfl rfl qw_1028 qw_853 qw_854 qw_22 qw_855 ⟨rfl, by decide +kernel, by decide +kernel, by decide +kernel⟩ ⟨Nat.le_of_ble_eq_true rfl, Nat.le_of_ble_eq_true rfl⟩ hl rfl rfl (Nat.le_of_ble_eq_true rfl) dX0_byDoor_3 ⟨Nat.le_of_ble_eq_true rfl, Nat.le_of_ble_eq_true rfl⟩ (fun z8652 F9 H locs hT hz8652 => ?_)
  obtain ⟨fz8652, hz8652⟩ := hz8652
  rw [fz8652] at hT
  refine lv_if_ne (tgt := 12) hx hb dX0_byDoor_6 (by decide) (fun c8653 => ?_) (fun c8653 => ?_)
  · have w8654 := cv_ne (rfl : z8652.toInt = z8652.toInt) (by decide : (0 : Int32).toInt = 0) c8653
    refine lv_aload_n hx hb dX0_byDoor_12 rfl (lv_at hl 0 rfl) ?_
    refine lv_iload_n hx hb dX0_byDoor_13 rfl (lv_at hl 1 rfl) ?_
    refine lv_iload_n hx hb dX0_byDoor_14 rfl (lv_at hl 2 rfl) ?_
    refine t_cVi (n := 2) (C := RX7) (T := TX7) (N := 7) (As := [.int p1, .int p2]) (rest := []) X hT (kt19_X7_isOpen l G tag L F hT.2.2.2 p0 p1 p2 m0 g0) m0 g0 rfl rfl qw_1029 qw_984 qw_985 qw_22 qw_986 ⟨rfl, by decide +kernel, by decide +kernel, by decide +kernel⟩ ⟨Nat.le_of_ble_eq_true rfl, Nat.le_of_ble_eq_true rfl⟩ hl rfl rfl (Nat.le_of_ble_eq_true rfl) dX0_byDoor_15 ⟨Nat.le_of_ble_eq_true rfl, Nat.le_of_ble_eq_true rfl⟩ (fun z8655 F9 H locs hT hz8655 => ?_)
    obtain ⟨fz8655, hz8655⟩ := hz8655
    rw [fz8655] at hT
    refine lv_if_ne (tgt := 25) hx hb dX0_byDoor_18 (by decide) (fun c8656 => ?_) (fun c8656 => ?_)
    · have w8657 := cv_ne (rfl : z8655.toInt = z8655.toInt) (by decide : (0 : Int32).toInt = 0) c8656
      refine lv_aload_n hx hb dX0_byDoor_25 rfl (lv_at hl 0 rfl) ?_
      refine lv_iload_n hx hb dX0_byDoor_26 rfl (lv_at hl 1 rfl) ?_
      refine lv_iload_n hx hb dX0_byDoor_27 rfl (lv_at hl 2 rfl) ?_
      refine lv_iconst (v := 3) hx hb dX0_byDoor_28 (by decide) ?_
      refine t_cVi (n := 3) (C := RX7) (T := TX7) (N := 7) (As := [.int p1, .int p2, .int 3]) (rest := []) X hT (kt15_X7_partOf l G tag L F hT.2.2.2 p0 p1 p2 3 m0 g0) m0 g0 rfl rfl qw_1030 qw_778 qw_779 qw_22 qw_780 ⟨rfl, by decide +kernel, by decide +kernel, by decide +kernel⟩ ⟨Nat.le_of_ble_eq_true rfl, Nat.le_of_ble_eq_true rfl⟩ hl rfl rfl (Nat.le_of_ble_eq_true rfl) dX0_byDoor_29 ⟨Nat.le_of_ble_eq_true rfl, Nat.le_of_ble_eq_true rfl⟩ (fun z8658 F9 H locs hT hz8658 => ?_)
      obtain ⟨fz8658, hz8658⟩ := hz8658
      rw [fz8658] at hT
      refine lv_iconst (v := 1) hx hb dX0_byDoor_32 (by decide) ?_
      refine lv_iadd hx hb dX0_byDoor_33 ?_
      refine lv_topi (fun z8659 ez8659 => ?_)
      have rz8659 := rg_all z8659
      refine lv_bipush (v := 8) hx hb dX0_byDoor_34 (by decide) ?_
      refine lv_imul hx hb dX0_byDoor_36 ?_
      refine lv_topi (fun z8660 ez8660 => ?_)
      have rz8660 := rg_all z8660
      exact t_iret hQ X hT (⟨rfl, rg_all _⟩) (Nat.le_of_ble_eq_true rfl) (Nat.le_of_ble_eq_true rfl) dX0_byDoor_37
    · have w8661 := cv_eq (rfl : z8655.toInt = z8655.toInt) (by decide : (0 : Int32).toInt = 0) c8656
      refine lv_sipush (v := 160) hx hb dX0_byDoor_21 (by decide) ?_
      exact t_iret hQ X hT (⟨rfl, rg_all _⟩) (Nat.le_of_ble_eq_true rfl) (Nat.le_of_ble_eq_true rfl) dX0_byDoor_24
  · have w8662 := cv_eq (rfl : z8652.toInt = z8652.toInt) (by decide : (0 : Int32).toInt = 0) c8653
    refine lv_bipush (v := 8) hx hb dX0_byDoor_9 (by decide) ?_
    exact t_iret hQ X hT (⟨rfl, rg_all _⟩) (Nat.le_of_ble_eq_true rfl) (Nat.le_of_ble_eq_true rfl) dX0_byDoor_11
set_option maxHeartbeats 4000000 in
set_option maxRecDepth 100000 in
theorem kt35_X0_byWall (l : Launch) (G : KG) (tag : Nat → Nat) (L : List Nat) (F : Nat → va_E) (ho : okT G ttC tag L F) (p0 : Nat) (p1 : Nat) (p2 : Int32) (p3 : Int32) (m0 : p0 ∈ L) (g0 : tag p0 = 18) (m1 : p1 ∈ L) (g1 : tag p1 = 19) : TMi l yX0_byWall cX0_byWall 5 (some .int) { frames := 3, cells := 0, slots := 0, locals := 68 } G ttC tag L F [.ref p0, .ref p1, .int p2, .int p3] (fun r F1 => F1 = F ∧ ((-2147483648) ≤ r.toInt ∧ r.toInt ≤ 2147483647)) := by
  refine t_bodyi (y := yX0_byWall) (cd := cX0_byWall) (mL := 5) (rt := (some .int)) (rm := { frames := 3, cells := 0, slots := 0, locals := 68 }) (av := [.ref p0, .ref p1, .int p2, .int p3]) (by decide) (Nat.le_of_ble_eq_true rfl) ho ?_
  intro p e s m args below meth c ls A Q hQ X hT hl
  have hx := X.1.1
  have hb := X.1.2.1
  have hl : lv_has ls 5 [(0, .ref p0), (1, .ref p1), (2, .int p2), (3, .int p3)] := hl
  have rp2 := rg_all p2
  have rp3 := rg_all p3
  refine lv_aload_n hx hb dX0_byWall_0 rfl (lv_at hl 1 rfl) ?_
  refine lv_iload_n hx hb dX0_byWall_1 rfl (lv_at hl 2 rfl) ?_
  refine lv_iload_n hx hb dX0_byWall_2 rfl (lv_at hl 3 rfl) ?_
  refine t_cVi (n := 2) (C := RX7) (T := TX7) (N := 7) (As := [.int p2, .int p3]) (rest := []) X hT (kt18_X7_stands l G tag L F hT.2.2.2 p1 p2 p3 m1 g1) m1 g1 rfl rfl qw_1028 qw_853 qw_854 qw_22 qw_855 ⟨rfl, by decide +kernel, by decide +kernel, by decide +kernel⟩ ⟨Nat.le_of_ble_eq_true rfl, Nat.le_of_ble_eq_true rfl⟩ hl rfl rfl (Nat.le_of_ble_eq_true rfl) dX0_byWall_3 ⟨Nat.le_of_ble_eq_true rfl, Nat.le_of_ble_eq_true rfl⟩ (fun z8828 F9 H locs hT hz8828 => ?_)
  obtain ⟨fz8828, hz8828⟩ := hz8828
  rw [fz8828] at hT
  refine lv_if_ne (tgt := 12) hx hb dX0_byWall_6 (by decide) (fun c8829 => ?_) (fun c8829 => ?_)
  · have w8830 := cv_ne (rfl : z8828.toInt = z8828.toInt) (by decide : (0 : Int32).toInt = 0) c8829
    refine lv_aload_n hx hb dX0_byWall_12 rfl (lv_at hl 1 rfl) ?_
    refine lv_iload_n hx hb dX0_byWall_13 rfl (lv_at hl 2 rfl) ?_
    refine lv_iload_n hx hb dX0_byWall_14 rfl (lv_at hl 3 rfl) ?_
    refine t_cVi (n := 2) (C := RX7) (T := TX7) (N := 7) (As := [.int p2, .int p3]) (rest := []) X hT (kt19_X7_isOpen l G tag L F hT.2.2.2 p1 p2 p3 m1 g1) m1 g1 rfl rfl qw_1029 qw_984 qw_985 qw_22 qw_986 ⟨rfl, by decide +kernel, by decide +kernel, by decide +kernel⟩ ⟨Nat.le_of_ble_eq_true rfl, Nat.le_of_ble_eq_true rfl⟩ hl rfl rfl (Nat.le_of_ble_eq_true rfl) dX0_byWall_15 ⟨Nat.le_of_ble_eq_true rfl, Nat.le_of_ble_eq_true rfl⟩ (fun z8831 F9 H locs hT hz8831 => ?_)
    obtain ⟨fz8831, hz8831⟩ := hz8831
    rw [fz8831] at hT
    refine lv_if_ne (tgt := 25) hx hb dX0_byWall_18 (by decide) (fun c8832 => ?_) (fun c8832 => ?_)
    · have w8833 := cv_ne (rfl : z8831.toInt = z8831.toInt) (by decide : (0 : Int32).toInt = 0) c8832
      refine lv_aload_n hx hb dX0_byWall_25 rfl (lv_at hl 0 rfl) ?_
      refine lv_aload_n hx hb dX0_byWall_26 rfl (lv_at hl 1 rfl) ?_
      refine lv_iload_n hx hb dX0_byWall_27 rfl (lv_at hl 2 rfl) ?_
      refine lv_iload_n hx hb dX0_byWall_28 rfl (lv_at hl 3 rfl) ?_
      refine lv_iconst (v := 0) hx hb dX0_byWall_29 (by decide) ?_
      refine t_cVi (n := 3) (C := RX7) (T := TX7) (N := 7) (As := [.int p2, .int p3, .int 0]) (rest := [.ref p0]) X hT (kt15_X7_partOf l G tag L F hT.2.2.2 p1 p2 p3 0 m1 g1) m1 g1 rfl rfl qw_1030 qw_778 qw_779 qw_22 qw_780 ⟨rfl, by decide +kernel, by decide +kernel, by decide +kernel⟩ ⟨Nat.le_of_ble_eq_true rfl, Nat.le_of_ble_eq_true rfl⟩ hl rfl rfl (Nat.le_of_ble_eq_true rfl) dX0_byWall_30 ⟨Nat.le_of_ble_eq_true rfl, Nat.le_of_ble_eq_true rfl⟩ (fun z8834 F9 H locs hT hz8834 => ?_)
      obtain ⟨fz8834, hz8834⟩ := hz8834
      rw [fz8834] at hT
      refine lv_iconst (v := 4) hx hb dX0_byWall_33 (by decide) ?_
      refine t_cVi (n := 2) (C := RX1) (T := TX1) (N := 20) (As := [.int z8834, .int 4]) (rest := []) X hT (kt9_X1_stonePart l G tag L F hT.2.2.2 p0 z8834 4 m0 g0) m0 g0 rfl rfl qw_1035 qw_858 qw_859 qw_17 qw_860 ⟨rfl, by decide +kernel, by decide +kernel, by decide +kernel⟩ ⟨Nat.le_of_ble_eq_true rfl, Nat.le_of_ble_eq_true rfl⟩ hl rfl rfl (Nat.le_of_ble_eq_true rfl) dX0_byWall_34 ⟨Nat.le_of_ble_eq_true rfl, Nat.le_of_ble_eq_true rfl⟩ (fun z8835 F9 H locs hT hz8835 => ?_)
      obtain ⟨fz8835, hz8835⟩ := hz8835
      rw [fz8835] at hT
      refine lv_istore (lv' := [(4, .int z8835), (0, .ref p0), (1, .ref p1), (2, .int p2), (3, .int p3)]) hx hb dX0_byWall_37 hl (by decide) rfl (fun ls hl => ?_)
      refine lv_iconst (v := 1) hx hb dX0_byWall_39 (by decide) ?_
      refine lv_iload hx hb dX0_byWall_40 (lv_at hl 0 rfl) ?_
      refine lv_aload_n hx hb dX0_byWall_42 rfl (lv_at hl 2 rfl) ?_
      refine lv_iload_n hx hb dX0_byWall_43 rfl (lv_at hl 3 rfl) ?_
      refine lv_iload_n hx hb dX0_byWall_44 rfl (lv_at hl 4 rfl) ?_
      refine lv_iconst (v := 4) hx hb dX0_byWall_45 (by decide) ?_
      refine t_cVi (n := 3) (C := RX7) (T := TX7) (N := 7) (As := [.int p2, .int p3, .int 4]) (rest := [.int z8835, .int 1]) X hT (kt15_X7_partOf l G tag L F hT.2.2.2 p1 p2 p3 4 m1 g1) m1 g1 rfl rfl qw_1030 qw_778 qw_779 qw_22 qw_780 ⟨rfl, by decide +kernel, by decide +kernel, by decide +kernel⟩ ⟨Nat.le_of_ble_eq_true rfl, Nat.le_of_ble_eq_true rfl⟩ hl rfl rfl (Nat.le_of_ble_eq_true rfl) dX0_byWall_46 ⟨Nat.le_of_ble_eq_true rfl, Nat.le_of_ble_eq_true rfl⟩ (fun z8836 F9 H locs hT hz8836 => ?_)
      obtain ⟨fz8836, hz8836⟩ := hz8836
      rw [fz8836] at hT
      refine lv_isub hx hb dX0_byWall_49 ?_
      refine lv_topi (fun z8837 ez8837 => ?_)
      have rz8837 := rg_all z8837
      refine t_mmax X hl qw_1034 qw_849 qw_850 qw_851 (Nat.le_of_ble_eq_true rfl) (Nat.le_of_ble_eq_true rfl) (Nat.le_of_ble_eq_true rfl) (Nat.le_of_ble_eq_true rfl) dX0_byWall_50 (fun z8838 ez8838 => ?_)
      have hz8838 := mmax_e ez8838 (by decide : (1 : Int32).toInt = 1) (rfl : z8837.toInt = z8837.toInt)
      refine lv_bipush (v := 8) hx hb dX0_byWall_53 (by decide) ?_
      refine lv_imul hx hb dX0_byWall_55 ?_
      refine lv_topi (fun z8839 ez8839 => ?_)
      have rz8839 := rg_all z8839
      refine lv_iconst (v := 1) hx hb dX0_byWall_56 (by decide) ?_
      refine lv_iadd hx hb dX0_byWall_57 ?_
      refine lv_topi (fun z8840 ez8840 => ?_)
      have rz8840 := rg_all z8840
      exact t_iret hQ X hT (⟨rfl, rg_all _⟩) (Nat.le_of_ble_eq_true rfl) (Nat.le_of_ble_eq_true rfl) dX0_byWall_58
    · have w8841 := cv_eq (rfl : z8831.toInt = z8831.toInt) (by decide : (0 : Int32).toInt = 0) c8832
      refine lv_sipush (v := 161) hx hb dX0_byWall_21 (by decide) ?_
      exact t_iret hQ X hT (⟨rfl, rg_all _⟩) (Nat.le_of_ble_eq_true rfl) (Nat.le_of_ble_eq_true rfl) dX0_byWall_24
  · have w8842 := cv_eq (rfl : z8828.toInt = z8828.toInt) (by decide : (0 : Int32).toInt = 0) c8829
    refine lv_bipush (v := 9) hx hb dX0_byWall_9 (by decide) ?_
    exact t_iret hQ X hT (⟨rfl, rg_all _⟩) (Nat.le_of_ble_eq_true rfl) (Nat.le_of_ble_eq_true rfl) dX0_byWall_11
set_option maxHeartbeats 4000000 in
set_option maxRecDepth 100000 in
theorem kt36_X0_empty (l : Launch) (G : KG) (tag : Nat → Nat) (L : List Nat) (Fo : Nat → va_E) (ho : okT G ttC tag L Fo) (p0 : Nat) (m0 : p0 ∈ L) (g0 : tag p0 = 12) : TMv l yX0_empty cX0_empty 2 { frames := 0, cells := 0, slots := 0, locals := 0 } G ttC tag L Fo [.ref p0] (fun F1 => ((∀ b j : Nat, fld F1 b j = fld Fo b j) ∧ EF tag F1 Fo)) := by
  refine t_bodyv (y := yX0_empty) (cd := cX0_empty) (mL := 2) (rm := { frames := 0, cells := 0, slots := 0, locals := 0 }) (av := [.ref p0]) (by decide) (Nat.le_of_ble_eq_true rfl) ho ?_
  intro p e s m args below meth c ls A Q hQ X hT hl
  have hx := X.1.1
  have hb := X.1.2.1
  have hl : lv_has ls 2 [(0, .ref p0)] := hl
  obtain ⟨F, hFo⟩ : ∃ F : Nat → va_E, F = Fo := ⟨_, rfl⟩
  rw [← hFo] at hT
  have hfr : (∀ b j : Nat, fld F b j = fld Fo b j) ∧ EF tag F Fo := by
    rw [hFo]
    exact ⟨by intros; rfl, fun _ _ _ => rfl⟩
  have K2 : ∀ (n : Nat) (z9032 : Int32) (F : Nat → va_E) (H : Heap) (locs : List Loc) (ls : Array Slot), (48 - z9032.toInt < (n : Int)) → (0 ≤ z9032.toInt ∧ z9032.toInt ≤ 48) → TH G ttC A s tag L F H locs → ((∀ b j : Nat, fld F b j = fld Fo b j) ∧ EF tag F Fo) → lv_has ls 2 [(0, .ref p0), (1, .int z9032)] → W p l e { frames := 0, cells := 0, slots := 0, locals := 0 } s m args below meth c H locs 0 0 Q (F0 m 2 ls []) := by
    intro n
    induction n with
    | zero =>
      intro z9032 F H locs ls hn rz9032 hT hfr hl
      exfalso
      omega
    | succ n ih2 =>
      intro z9032 F H locs ls hn rz9032 hT hfr hl
      refine lv_iload_n hx hb dX0_empty_2 rfl (lv_at hl 1 rfl) ?_
      refine lv_aload_n hx hb dX0_empty_3 rfl (lv_at hl 0 rfl) ?_
      refine t_alen X hT m0 g0 rfl (by decide) dX0_empty_4 ?_
      refine lv_topi (fun z9033 ez9033 => ?_)
      obtain rfl : z9033 = 48 := ez9033.trans (by rfl)
      refine lv_icmp_ge (tgt := 19) hx hb dX0_empty_5 (by decide) (fun c9034 => ?_) (fun c9034 => ?_)
      · have w9035 := cv_le (by decide : (48 : Int32).toInt = 48) (rfl : z9032.toInt = z9032.toInt) c9034
        exact t_vret hQ X hT hfr (Nat.le_of_ble_eq_true rfl) (Nat.le_of_ble_eq_true rfl) dX0_empty_19
      · have w9036 := cv_nle (by decide : (48 : Int32).toInt = 48) (rfl : z9032.toInt = z9032.toInt) c9034
        refine lv_aload_n hx hb dX0_empty_8 rfl (lv_at hl 0 rfl) ?_
        refine lv_iload_n hx hb dX0_empty_9 rfl (lv_at hl 1 rfl) ?_
        refine m_ldc X qw_1023 dX0_empty_10 ?_
        refine t_ist X hT m0 g0 rfl (by omega) (show (-2147483648) ≤ (1000000 : Int32).toInt ∧ (1000000 : Int32).toInt ≤ 2147483647 from (by decide)) dX0_empty_12 (fun F H locs hT v9037 h1v9037 h2v9037 => ?_)
        have hfr : (∀ b j : Nat, fld F b j = fld Fo b j) ∧ EF tag F Fo := ⟨fun b j  => (h2v9037 b j).trans (hfr.1 b j ), fun b j hb => (h1v9037 b j (Or.inl (ns_ne hb g0 (by decide)))).trans (hfr.2 b j hb)⟩
        obtain ⟨z9038, ez9038⟩ : ∃ y : Int32, y = z9032 + 1 := ⟨_, rfl⟩
        have hz9038 : z9038.toInt = z9032.toInt + 1 := ar_add ez9038 rfl (by decide : (1 : Int32).toInt = 1) (by omega) (by omega)
        refine lv_iinc (v := z9038) (lv' := [(1, .int z9038), (0, .ref p0)]) hx hb dX0_empty_13 hl (k := 1) rfl (by rw [ez9038]; rfl) (by decide) rfl (fun ls hl => ?_)
        refine lv_goto (tgt := 2) hx hb dX0_empty_16 (by decide) ?_
        exact ih2 z9038 _ _ _ _ (by omega) (by omega) hT hfr  (lv_sub hl [1, 0] rfl)
  refine lv_iconst (v := 0) hx hb dX0_empty_0 (by decide) ?_
  refine lv_istore_n (lv' := [(1, .int 0), (0, .ref p0)]) hx hb dX0_empty_1 rfl hl (by decide) rfl (fun ls hl => ?_)
  have kk9039 : (0 : Int32).toInt = 0 := by decide
  exact K2 49 0 _ _ _ _ (by omega) (by decide) hT hfr  (lv_sub hl [1, 0] rfl)
set_option maxHeartbeats 4000000 in
set_option maxRecDepth 100000 in
theorem kt37_X0_least (l : Launch) (G : KG) (tag : Nat → Nat) (L : List Nat) (F : Nat → va_E) (ho : okT G ttC tag L F) (p0 : Nat) (p1 : Int32) (m0 : p0 ∈ L) (g0 : tag p0 = 21) : TMi l yX0_least cX0_least 4 (some .int) { frames := 1, cells := 0, slots := 0, locals := 13 } G ttC tag L F [.ref p0, .int p1] (fun r F1 => F1 = F ∧ ((-2147483648) ≤ r.toInt ∧ r.toInt ≤ 1000000)) := by
  refine t_bodyi (y := yX0_least) (cd := cX0_least) (mL := 4) (rt := (some .int)) (rm := { frames := 1, cells := 0, slots := 0, locals := 13 }) (av := [.ref p0, .int p1]) (by decide) (Nat.le_of_ble_eq_true rfl) ho ?_
  intro p e s m args below meth c ls A Q hQ X hT hl
  have hx := X.1.1
  have hb := X.1.2.1
  have hl : lv_has ls 4 [(0, .ref p0), (1, .int p1)] := hl
  have rp1 := rg_all p1
  have K5 : ∀ (n : Nat) (z9459 : Int32) (z9460 : Int32) (H : Heap) (locs : List Loc) (ls : Array Slot), (48 - z9460.toInt < (n : Int)) → ((-2147483648) ≤ z9459.toInt ∧ z9459.toInt ≤ 1000000) → (0 ≤ z9460.toInt ∧ z9460.toInt ≤ 48) → TH G ttC A s tag L F H locs → lv_has ls 4 [(0, .ref p0), (1, .int p1), (2, .int z9459), (3, .int z9460)] → W p l e { frames := 1, cells := 0, slots := 0, locals := 13 } s m args below meth c H locs 0 0 Q (F0 m 5 ls []) := by
    intro n
    induction n with
    | zero =>
      intro z9459 z9460 H locs ls hn rz9459 rz9460 hT hl
      exfalso
      omega
    | succ n ih5 =>
      intro z9459 z9460 H locs ls hn rz9459 rz9460 hT hl
      refine lv_iload_n hx hb dX0_least_5 rfl (lv_at hl 3 rfl) ?_
      refine lv_iload_n hx hb dX0_least_6 rfl (lv_at hl 1 rfl) ?_
      refine lv_icmp_ge (tgt := 36) hx hb dX0_least_7 (by decide) (fun c9461 => ?_) (fun c9461 => ?_)
      · have w9462 := cv_le (rfl : p1.toInt = p1.toInt) (rfl : z9460.toInt = z9460.toInt) c9461
        refine lv_iload_n hx hb dX0_least_36 rfl (lv_at hl 2 rfl) ?_
        exact t_iret hQ X hT (⟨rfl, (by omega)⟩) (Nat.le_of_ble_eq_true rfl) (Nat.le_of_ble_eq_true rfl) dX0_least_37
      · have w9463 := cv_nle (rfl : p1.toInt = p1.toInt) (rfl : z9460.toInt = z9460.toInt) c9461
        refine lv_iload_n hx hb dX0_least_10 rfl (lv_at hl 3 rfl) ?_
        refine lv_aload_n hx hb dX0_least_11 rfl (lv_at hl 0 rfl) ?_
        refine t_get (C := RX0) (T := TX0) (N := 2) X hT m0 g0 rfl rfl 0 (by decide) qw_88 inlX0 rfl dX0_least_12 (fun v9464 hv9464 ov9464 => ?_)
        obtain ⟨b9465, rfl, mb9465, gb9465⟩ := okV_r ov9464
        have gb9465 : tag b9465 = 12 := tg_of gb9465
        refine t_alen X hT mb9465 gb9465 rfl (by decide) dX0_least_15 ?_
        refine lv_topi (fun z9466 ez9466 => ?_)
        obtain rfl : z9466 = 48 := ez9466.trans (by rfl)
        refine lv_icmp_ge (tgt := 36) hx hb dX0_least_16 (by decide) (fun c9467 => ?_) (fun c9467 => ?_)
        · have w9468 := cv_le (by decide : (48 : Int32).toInt = 48) (rfl : z9460.toInt = z9460.toInt) c9467
          refine lv_iload_n hx hb dX0_least_36 rfl (lv_at hl 2 rfl) ?_
          exact t_iret hQ X hT (⟨rfl, (by omega)⟩) (Nat.le_of_ble_eq_true rfl) (Nat.le_of_ble_eq_true rfl) dX0_least_37
        · have w9469 := cv_nle (by decide : (48 : Int32).toInt = 48) (rfl : z9460.toInt = z9460.toInt) c9467
          refine lv_iload_n hx hb dX0_least_19 rfl (lv_at hl 2 rfl) ?_
          refine lv_aload_n hx hb dX0_least_20 rfl (lv_at hl 0 rfl) ?_
          refine t_get (C := RX0) (T := TX0) (N := 2) X hT m0 g0 rfl rfl 0 (by decide) qw_88 inlX0 rfl dX0_least_21 (fun v9470 hv9470 ov9470 => ?_)
          obtain rfl : v9470 = .ref b9465 := hv9470.symm.trans hv9464
          refine lv_iload_n hx hb dX0_least_24 rfl (lv_at hl 3 rfl) ?_
          refine t_ild X hT mb9465 gb9465 rfl (by omega) dX0_least_25 (fun z9471 vz9471 rz9471 => ?_)
          have rz9471 : (-2147483648) ≤ z9471.toInt ∧ z9471.toInt ≤ 2147483647 := rz9471
          refine t_mmin X hl qw_1017 qw_1018 qw_850 qw_1019 (Nat.le_of_ble_eq_true rfl) (Nat.le_of_ble_eq_true rfl) (Nat.le_of_ble_eq_true rfl) (Nat.le_of_ble_eq_true rfl) dX0_least_26 (fun z9472 ez9472 => ?_)
          have hz9472 := mmin_e ez9472 (rfl : z9459.toInt = z9459.toInt) (rfl : z9471.toInt = z9471.toInt)
          refine lv_istore_n (lv' := [(2, .int z9472), (0, .ref p0), (1, .int p1), (3, .int z9460)]) hx hb dX0_least_29 rfl hl (by decide) rfl (fun ls hl => ?_)
          obtain ⟨z9473, ez9473⟩ : ∃ y : Int32, y = z9460 + 1 := ⟨_, rfl⟩
          have hz9473 : z9473.toInt = z9460.toInt + 1 := ar_add ez9473 rfl (by decide : (1 : Int32).toInt = 1) (by omega) (by omega)
          refine lv_iinc (v := z9473) (lv' := [(3, .int z9473), (2, .int z9472), (0, .ref p0), (1, .int p1)]) hx hb dX0_least_30 hl (k := 3) rfl (by rw [ez9473]; rfl) (by decide) rfl (fun ls hl => ?_)
          refine lv_goto (tgt := 5) hx hb dX0_least_33 (by decide) ?_
          exact ih5 z9472 z9473 _ _ _ (by omega) (by omega) (by omega) hT  (lv_sub hl [2, 3, 1, 0] rfl)
  refine m_ldc X qw_1023 dX0_least_0 ?_
  refine lv_istore_n (lv' := [(2, .int 1000000), (0, .ref p0), (1, .int p1)]) hx hb dX0_least_2 rfl hl (by decide) rfl (fun ls hl => ?_)
  refine lv_iconst (v := 0) hx hb dX0_least_3 (by decide) ?_
  refine lv_istore_n (lv' := [(3, .int 0), (2, .int 1000000), (0, .ref p0), (1, .int p1)]) hx hb dX0_least_4 rfl hl (by decide) rfl (fun ls hl => ?_)
  have kk9474 : (1000000 : Int32).toInt = 1000000 := by decide
  have kk9475 : (0 : Int32).toInt = 0 := by decide
  exact K5 49 1000000 0 _ _ _ (by omega) (by decide) (by decide) hT  (lv_sub hl [2, 3, 1, 0] rfl)
set_option maxHeartbeats 4000000 in
set_option maxRecDepth 100000 in
theorem kt38_X0_goRound (l : Launch) (G : KG) (tag : Nat → Nat) (L : List Nat) (Fo : Nat → va_E) (ho : okT G ttC tag L Fo) (p0 : Nat) (p1 : Int32) (m0 : p0 ∈ L) (g0 : tag p0 = 21) : TMv l yX0_goRound cX0_goRound 5 { frames := 1, cells := 0, slots := 0, locals := 15 } G ttC tag L Fo [.ref p0, .int p1] (fun F1 => ((∀ b j : Nat, fld F1 b j = fld Fo b j) ∧ EF tag F1 Fo)) := by
  refine t_bodyv (y := yX0_goRound) (cd := cX0_goRound) (mL := 5) (rm := { frames := 1, cells := 0, slots := 0, locals := 15 }) (av := [.ref p0, .int p1]) (by decide) (Nat.le_of_ble_eq_true rfl) ho ?_
  intro p e s m args below meth c ls A Q hQ X hT hl
  have hx := X.1.1
  have hb := X.1.2.1
  have hl : lv_has ls 5 [(0, .ref p0), (1, .int p1)] := hl
  have rp1 := rg_all p1
  obtain ⟨F, hFo⟩ : ∃ F : Nat → va_E, F = Fo := ⟨_, rfl⟩
  rw [← hFo] at hT
  have hfr : (∀ b j : Nat, fld F b j = fld Fo b j) ∧ EF tag F Fo := by
    rw [hFo]
    exact ⟨by intros; rfl, fun _ _ _ => rfl⟩
  have K73 : ∀ (n : Nat) (z10455 : Int32) (z10456 : Int32) (F : Nat → va_E) (H : Heap) (locs : List Loc) (ls : Array Slot), (z10456.toInt - 0 < (n : Int)) → (1 ≤ z10455.toInt ∧ z10455.toInt ≤ 48) → (0 ≤ z10456.toInt ∧ z10456.toInt ≤ 96) → TH G ttC A s tag L F H locs → ((∀ b j : Nat, fld F b j = fld Fo b j) ∧ EF tag F Fo) → lv_has ls 5 [(0, .ref p0), (1, .int p1), (2, .int z10455), (3, .int z10456)] → W p l e { frames := 1, cells := 0, slots := 0, locals := 15 } s m args below meth c H locs 0 0 Q (F0 m 73 ls []) := by
    intro n
    induction n with
    | zero =>
      intro z10455 z10456 F H locs ls hn rz10455 rz10456 hT hfr hl
      exfalso
      omega
    | succ n ih73 =>
      intro z10455 z10456 F H locs ls hn rz10455 rz10456 hT hfr hl
      refine lv_iload_n hx hb dX0_goRound_73 rfl (lv_at hl 3 rfl) ?_
      refine lv_if_le (tgt := 118) hx hb dX0_goRound_74 (by decide) (fun c10457 => ?_) (fun c10457 => ?_)
      · have w10458 := cv_le (rfl : z10456.toInt = z10456.toInt) (by decide : (0 : Int32).toInt = 0) c10457
        exact t_vret hQ X hT hfr (Nat.le_of_ble_eq_true rfl) (Nat.le_of_ble_eq_true rfl) dX0_goRound_118
      · have w10459 := cv_nle (rfl : z10456.toInt = z10456.toInt) (by decide : (0 : Int32).toInt = 0) c10457
        refine lv_iload_n hx hb dX0_goRound_77 rfl (lv_at hl 3 rfl) ?_
        refine lv_iconst (v := 1) hx hb dX0_goRound_78 (by decide) ?_
        refine lv_isub hx hb dX0_goRound_79 ?_
        refine lv_topi (fun z10460 ez10460 => ?_)
        have hz10460 : z10460.toInt = z10456.toInt - 1 := ar_sub ez10460 (rfl : z10456.toInt = z10456.toInt) (by decide : (1 : Int32).toInt = 1) (by omega) (by omega)
        have rz10460 : 0 ≤ z10460.toInt ∧ z10460.toInt ≤ 95 := by omega
        refine lv_iload_n hx hb dX0_goRound_80 rfl (lv_at hl 2 rfl) ?_
        refine lv_irem hx hb dX0_goRound_81 (ne0_of (by omega)) ?_
        refine lv_topi (fun z10461 ez10461 => ?_)
        have hz10461 := ar_remv ez10461 (by omega) (by omega)
        have rz10461 : 0 ≤ z10461.toInt ∧ z10461.toInt ≤ 47 := by omega
        refine lv_istore (lv' := [(4, .int z10461), (0, .ref p0), (1, .int p1), (2, .int z10455), (3, .int z10456)]) hx hb dX0_goRound_82 hl (by decide) rfl (fun ls hl => ?_)
        refine lv_aload_n hx hb dX0_goRound_84 rfl (lv_at hl 1 rfl) ?_
        refine t_get (C := RX0) (T := TX0) (N := 2) X hT m0 g0 rfl rfl 0 (by decide) qw_88 inlX0 rfl dX0_goRound_85 (fun v10462 hv10462 ov10462 => ?_)
        obtain ⟨b10463, rfl, mb10463, gb10463⟩ := okV_r ov10462
        have gb10463 : tag b10463 = 12 := tg_of gb10463
        refine lv_iload hx hb dX0_goRound_88 (lv_at hl 0 rfl) ?_
        refine lv_aload_n hx hb dX0_goRound_90 rfl (lv_at hl 1 rfl) ?_
        refine t_get (C := RX0) (T := TX0) (N := 2) X hT m0 g0 rfl rfl 0 (by decide) qw_88 inlX0 rfl dX0_goRound_91 (fun v10464 hv10464 ov10464 => ?_)
        obtain rfl : v10464 = .ref b10463 := hv10464.symm.trans hv10462
        refine lv_iload hx hb dX0_goRound_94 (lv_at hl 0 rfl) ?_
        refine t_ild X hT mb10463 gb10463 rfl (by omega) dX0_goRound_96 (fun z10465 vz10465 rz10465 => ?_)
        have rz10465 : (-2147483648) ≤ z10465.toInt ∧ z10465.toInt ≤ 2147483647 := rz10465
        refine lv_aload_n hx hb dX0_goRound_97 rfl (lv_at hl 1 rfl) ?_
        refine t_get (C := RX0) (T := TX0) (N := 2) X hT m0 g0 rfl rfl 0 (by decide) qw_88 inlX0 rfl dX0_goRound_98 (fun v10466 hv10466 ov10466 => ?_)
        obtain rfl : v10466 = .ref b10463 := hv10466.symm.trans hv10462
        refine lv_iload_n hx hb dX0_goRound_101 rfl (lv_at hl 4 rfl) ?_
        refine lv_iload_n hx hb dX0_goRound_102 rfl (lv_at hl 3 rfl) ?_
        refine lv_irem hx hb dX0_goRound_103 (ne0_of (by omega)) ?_
        refine lv_topi (fun z10467 ez10467 => ?_)
        have hz10467 := ar_remv ez10467 (by omega) (by omega)
        have rz10467 : 0 ≤ z10467.toInt ∧ z10467.toInt ≤ 47 := by omega
        refine t_ild X hT mb10463 gb10463 rfl (by omega) dX0_goRound_104 (fun z10468 vz10468 rz10468 => ?_)
        have rz10468 : (-2147483648) ≤ z10468.toInt ∧ z10468.toInt ≤ 2147483647 := rz10468
        refine lv_bipush (v := 8) hx hb dX0_goRound_105 (by decide) ?_
        refine lv_iadd hx hb dX0_goRound_107 ?_
        refine lv_topi (fun z10469 ez10469 => ?_)
        have rz10469 := rg_all z10469
        refine t_mmin X hl qw_1017 qw_1018 qw_850 qw_1019 (Nat.le_of_ble_eq_true rfl) (Nat.le_of_ble_eq_true rfl) (Nat.le_of_ble_eq_true rfl) (Nat.le_of_ble_eq_true rfl) dX0_goRound_108 (fun z10470 ez10470 => ?_)
        have hz10470 := mmin_e ez10470 (rfl : z10465.toInt = z10465.toInt) (rfl : z10469.toInt = z10469.toInt)
        refine t_ist X hT mb10463 gb10463 rfl (by omega) (show (-2147483648) ≤ (z10470 : Int32).toInt ∧ (z10470 : Int32).toInt ≤ 2147483647 from (by omega)) dX0_goRound_111 (fun F H locs hT v10471 h1v10471 h2v10471 => ?_)
        have hv10462 := (h2v10471 _ _).trans hv10462
        have hfr : (∀ b j : Nat, fld F b j = fld Fo b j) ∧ EF tag F Fo := ⟨fun b j  => (h2v10471 b j).trans (hfr.1 b j ), fun b j hb => (h1v10471 b j (Or.inl (ns_ne hb gb10463 (by decide)))).trans (hfr.2 b j hb)⟩
        obtain ⟨z10472, ez10472⟩ : ∃ y : Int32, y = z10456 + (-1) := ⟨_, rfl⟩
        have hz10472 : z10472.toInt = z10456.toInt + (-1) := ar_add ez10472 rfl (by decide : ((-1) : Int32).toInt = (-1)) (by omega) (by omega)
        refine lv_iinc (v := z10472) (lv' := [(3, .int z10472), (4, .int z10461), (0, .ref p0), (1, .int p1), (2, .int z10455)]) hx hb dX0_goRound_112 hl (k := 4) rfl (by rw [ez10472]; rfl) (by decide) rfl (fun ls hl => ?_)
        refine lv_goto (tgt := 73) hx hb dX0_goRound_115 (by decide) ?_
        exact ih73 z10455 z10472 _ _ _ _ (by omega) (by omega) (by omega) hT hfr  (lv_sub hl [2, 3, 4, 0] rfl)
  have K21 : ∀ (n : Nat) (z10473 : Int32) (z10474 : Int32) (F : Nat → va_E) (H : Heap) (locs : List Loc) (ls : Array Slot), (96 - z10474.toInt < (n : Int)) → (1 ≤ z10473.toInt ∧ z10473.toInt ≤ 48) → (0 ≤ z10474.toInt ∧ z10474.toInt ≤ 96) → TH G ttC A s tag L F H locs → ((∀ b j : Nat, fld F b j = fld Fo b j) ∧ EF tag F Fo) → lv_has ls 5 [(0, .ref p0), (1, .int p1), (2, .int z10473), (3, .int z10474)] → W p l e { frames := 1, cells := 0, slots := 0, locals := 15 } s m args below meth c H locs 0 0 Q (F0 m 21 ls []) := by
    intro n
    induction n with
    | zero =>
      intro z10473 z10474 F H locs ls hn rz10473 rz10474 hT hfr hl
      exfalso
      omega
    | succ n ih21 =>
      intro z10473 z10474 F H locs ls hn rz10473 rz10474 hT hfr hl
      refine lv_iload_n hx hb dX0_goRound_21 rfl (lv_at hl 3 rfl) ?_
      refine lv_iconst (v := 2) hx hb dX0_goRound_22 (by decide) ?_
      refine lv_iload_n hx hb dX0_goRound_23 rfl (lv_at hl 2 rfl) ?_
      refine lv_imul hx hb dX0_goRound_24 ?_
      refine lv_topi (fun z10475 ez10475 => ?_)
      have hz10475 : z10475.toInt = 2 * z10473.toInt := ar_mul ez10475 (by decide : (2 : Int32).toInt = 2) (rfl : z10473.toInt = z10473.toInt) (by omega) (by omega)
      have rz10475 : 2 ≤ z10475.toInt ∧ z10475.toInt ≤ 96 := by omega
      refine lv_icmp_ge (tgt := 69) hx hb dX0_goRound_25 (by decide) (fun c10476 => ?_) (fun c10476 => ?_)
      · have w10477 := cv_le (rfl : z10475.toInt = z10475.toInt) (rfl : z10474.toInt = z10474.toInt) c10476
        refine lv_iconst (v := 2) hx hb dX0_goRound_69 (by decide) ?_
        refine lv_iload_n hx hb dX0_goRound_70 rfl (lv_at hl 2 rfl) ?_
        refine lv_imul hx hb dX0_goRound_71 ?_
        refine lv_topi (fun z10478 ez10478 => ?_)
        have hz10478 : z10478.toInt = 2 * z10473.toInt := ar_mul ez10478 (by decide : (2 : Int32).toInt = 2) (rfl : z10473.toInt = z10473.toInt) (by omega) (by omega)
        have rz10478 : 2 ≤ z10478.toInt ∧ z10478.toInt ≤ 96 := by omega
        refine lv_istore_n (lv' := [(3, .int z10478), (0, .ref p0), (1, .int p1), (2, .int z10473)]) hx hb dX0_goRound_72 rfl hl (by decide) rfl (fun ls hl => ?_)
        exact K73 97 z10473 z10478 _ _ _ _ (by omega) (by omega) (by omega) hT hfr  (lv_sub hl [1, 2, 3, 0] rfl)
      · have w10479 := cv_nle (rfl : z10475.toInt = z10475.toInt) (rfl : z10474.toInt = z10474.toInt) c10476
        refine lv_iload_n hx hb dX0_goRound_28 rfl (lv_at hl 3 rfl) ?_
        refine lv_iconst (v := 1) hx hb dX0_goRound_29 (by decide) ?_
        refine lv_iadd hx hb dX0_goRound_30 ?_
        refine lv_topi (fun z10480 ez10480 => ?_)
        have hz10480 : z10480.toInt = z10474.toInt + 1 := ar_add ez10480 (rfl : z10474.toInt = z10474.toInt) (by decide : (1 : Int32).toInt = 1) (by omega) (by omega)
        have rz10480 : 1 ≤ z10480.toInt ∧ z10480.toInt ≤ 96 := by omega
        refine lv_iload_n hx hb dX0_goRound_31 rfl (lv_at hl 2 rfl) ?_
        refine lv_irem hx hb dX0_goRound_32 (ne0_of (by omega)) ?_
        refine lv_topi (fun z10481 ez10481 => ?_)
        have hz10481 := ar_remv ez10481 (by omega) (by omega)
        have rz10481 : 0 ≤ z10481.toInt ∧ z10481.toInt ≤ 47 := by omega
        refine lv_istore (lv' := [(4, .int z10481), (0, .ref p0), (1, .int p1), (2, .int z10473), (3, .int z10474)]) hx hb dX0_goRound_33 hl (by decide) rfl (fun ls hl => ?_)
        refine lv_aload_n hx hb dX0_goRound_35 rfl (lv_at hl 1 rfl) ?_
        refine t_get (C := RX0) (T := TX0) (N := 2) X hT m0 g0 rfl rfl 0 (by decide) qw_88 inlX0 rfl dX0_goRound_36 (fun v10482 hv10482 ov10482 => ?_)
        obtain ⟨b10483, rfl, mb10483, gb10483⟩ := okV_r ov10482
        have gb10483 : tag b10483 = 12 := tg_of gb10483
        refine lv_iload hx hb dX0_goRound_39 (lv_at hl 0 rfl) ?_
        refine lv_aload_n hx hb dX0_goRound_41 rfl (lv_at hl 1 rfl) ?_
        refine t_get (C := RX0) (T := TX0) (N := 2) X hT m0 g0 rfl rfl 0 (by decide) qw_88 inlX0 rfl dX0_goRound_42 (fun v10484 hv10484 ov10484 => ?_)
        obtain rfl : v10484 = .ref b10483 := hv10484.symm.trans hv10482
        refine lv_iload hx hb dX0_goRound_45 (lv_at hl 0 rfl) ?_
        refine t_ild X hT mb10483 gb10483 rfl (by omega) dX0_goRound_47 (fun z10485 vz10485 rz10485 => ?_)
        have rz10485 : (-2147483648) ≤ z10485.toInt ∧ z10485.toInt ≤ 2147483647 := rz10485
        refine lv_aload_n hx hb dX0_goRound_48 rfl (lv_at hl 1 rfl) ?_
        refine t_get (C := RX0) (T := TX0) (N := 2) X hT m0 g0 rfl rfl 0 (by decide) qw_88 inlX0 rfl dX0_goRound_49 (fun v10486 hv10486 ov10486 => ?_)
        obtain rfl : v10486 = .ref b10483 := hv10486.symm.trans hv10482
        refine lv_iload_n hx hb dX0_goRound_52 rfl (lv_at hl 4 rfl) ?_
        refine lv_iload_n hx hb dX0_goRound_53 rfl (lv_at hl 3 rfl) ?_
        refine lv_irem hx hb dX0_goRound_54 (ne0_of (by omega)) ?_
        refine lv_topi (fun z10487 ez10487 => ?_)
        have hz10487 := ar_remv ez10487 (by omega) (by omega)
        have rz10487 : 0 ≤ z10487.toInt ∧ z10487.toInt ≤ 47 := by omega
        refine t_ild X hT mb10483 gb10483 rfl (by omega) dX0_goRound_55 (fun z10488 vz10488 rz10488 => ?_)
        have rz10488 : (-2147483648) ≤ z10488.toInt ∧ z10488.toInt ≤ 2147483647 := rz10488
        refine lv_bipush (v := 8) hx hb dX0_goRound_56 (by decide) ?_
        refine lv_iadd hx hb dX0_goRound_58 ?_
        refine lv_topi (fun z10489 ez10489 => ?_)
        have rz10489 := rg_all z10489
        refine t_mmin X hl qw_1017 qw_1018 qw_850 qw_1019 (Nat.le_of_ble_eq_true rfl) (Nat.le_of_ble_eq_true rfl) (Nat.le_of_ble_eq_true rfl) (Nat.le_of_ble_eq_true rfl) dX0_goRound_59 (fun z10490 ez10490 => ?_)
        have hz10490 := mmin_e ez10490 (rfl : z10485.toInt = z10485.toInt) (rfl : z10489.toInt = z10489.toInt)
        refine t_ist X hT mb10483 gb10483 rfl (by omega) (show (-2147483648) ≤ (z10490 : Int32).toInt ∧ (z10490 : Int32).toInt ≤ 2147483647 from (by omega)) dX0_goRound_62 (fun F H locs hT v10491 h1v10491 h2v10491 => ?_)
        have hv10482 := (h2v10491 _ _).trans hv10482
        have hfr : (∀ b j : Nat, fld F b j = fld Fo b j) ∧ EF tag F Fo := ⟨fun b j  => (h2v10491 b j).trans (hfr.1 b j ), fun b j hb => (h1v10491 b j (Or.inl (ns_ne hb gb10483 (by decide)))).trans (hfr.2 b j hb)⟩
        obtain ⟨z10492, ez10492⟩ : ∃ y : Int32, y = z10474 + 1 := ⟨_, rfl⟩
        have hz10492 : z10492.toInt = z10474.toInt + 1 := ar_add ez10492 rfl (by decide : (1 : Int32).toInt = 1) (by omega) (by omega)
        refine lv_iinc (v := z10492) (lv' := [(3, .int z10492), (4, .int z10481), (0, .ref p0), (1, .int p1), (2, .int z10473)]) hx hb dX0_goRound_63 hl (k := 4) rfl (by rw [ez10492]; rfl) (by decide) rfl (fun ls hl => ?_)
        refine lv_goto (tgt := 21) hx hb dX0_goRound_66 (by decide) ?_
        exact ih21 z10473 z10492 _ _ _ _ (by omega) (by omega) (by omega) hT hfr  (lv_sub hl [2, 3, 4, 0] rfl)
  refine lv_bipush (v := 8) hx hb dX0_goRound_0 (by decide) ?_
  refine lv_iload_n hx hb dX0_goRound_2 rfl (lv_at hl 1 rfl) ?_
  refine lv_imul hx hb dX0_goRound_3 ?_
  refine lv_topi (fun z10493 ez10493 => ?_)
  have rz10493 := rg_all z10493
  refine lv_aload_n hx hb dX0_goRound_4 rfl (lv_at hl 0 rfl) ?_
  refine t_get (C := RX0) (T := TX0) (N := 2) X hT m0 g0 rfl rfl 0 (by decide) qw_88 inlX0 rfl dX0_goRound_5 (fun v10494 hv10494 ov10494 => ?_)
  obtain ⟨b10495, rfl, mb10495, gb10495⟩ := okV_r ov10494
  have gb10495 : tag b10495 = 12 := tg_of gb10495
  refine t_alen X hT mb10495 gb10495 rfl (by decide) dX0_goRound_8 ?_
  refine lv_topi (fun z10496 ez10496 => ?_)
  obtain rfl : z10496 = 48 := ez10496.trans (by rfl)
  refine t_mmin X hl qw_1017 qw_1018 qw_850 qw_1019 (Nat.le_of_ble_eq_true rfl) (Nat.le_of_ble_eq_true rfl) (Nat.le_of_ble_eq_true rfl) (Nat.le_of_ble_eq_true rfl) dX0_goRound_9 (fun z10497 ez10497 => ?_)
  have hz10497 := mmin_e ez10497 (rfl : z10493.toInt = z10493.toInt) (by decide : (48 : Int32).toInt = 48)
  refine lv_istore_n (lv' := [(2, .int z10497), (0, .ref p0), (1, .int p1)]) hx hb dX0_goRound_12 rfl hl (by decide) rfl (fun ls hl => ?_)
  refine lv_iload_n hx hb dX0_goRound_13 rfl (lv_at hl 0 rfl) ?_
  refine lv_iconst (v := 1) hx hb dX0_goRound_14 (by decide) ?_
  refine lv_icmp_ge (tgt := 19) hx hb dX0_goRound_15 (by decide) (fun c10498 => ?_) (fun c10498 => ?_)
  · have w10499 := cv_le (by decide : (1 : Int32).toInt = 1) (rfl : z10497.toInt = z10497.toInt) c10498
    refine lv_iconst (v := 0) hx hb dX0_goRound_19 (by decide) ?_
    refine lv_istore_n (lv' := [(3, .int 0), (2, .int z10497), (0, .ref p0), (1, .int p1)]) hx hb dX0_goRound_20 rfl hl (by decide) rfl (fun ls hl => ?_)
    have kk10500 : (0 : Int32).toInt = 0 := by decide
    exact K21 97 z10497 0 _ _ _ _ (by omega) (by omega) (by decide) hT hfr  (lv_sub hl [2, 3, 1, 0] rfl)
  · have w10501 := cv_nle (by decide : (1 : Int32).toInt = 1) (rfl : z10497.toInt = z10497.toInt) c10498
    exact t_vret hQ X hT hfr (Nat.le_of_ble_eq_true rfl) (Nat.le_of_ble_eq_true rfl) dX0_goRound_18
set_option maxHeartbeats 4000000 in
set_option maxRecDepth 100000 in
theorem kt39_X4_inFront (l : Launch) (G : KG) (tag : Nat → Nat) (L : List Nat) (F : Nat → va_E) (ho : okT G ttC tag L F) (p0 : Int32) (p1 : Int32) (h0 : (-2147483648) ≤ p0.toInt ∧ p0.toInt ≤ 7) (h1 : 0 ≤ p1.toInt ∧ p1.toInt ≤ 47) : TMi l yX4_inFront cX4_inFront 4 (some .int) { frames := 0, cells := 0, slots := 0, locals := 0 } G ttC tag L F [.int p0, .int p1] (fun r F1 => F1 = F ∧ (0 ≤ r.toInt ∧ r.toInt ≤ 766)) := by
  refine t_bodyi (y := yX4_inFront) (cd := cX4_inFront) (mL := 4) (rt := (some .int)) (rm := { frames := 0, cells := 0, slots := 0, locals := 0 }) (av := [.int p0, .int p1]) (by decide) (Nat.le_of_ble_eq_true rfl) ho ?_
  intro p e s m args below meth c ls A Q hQ X hT hl
  have hx := X.1.1
  have hb := X.1.2.1
  have hl : lv_has ls 4 [(0, .int p0), (1, .int p1)] := hl
  refine lv_iload_n hx hb dX4_inFront_0 rfl (lv_at hl 0 rfl) ?_
  refine lv_iconst (v := 1) hx hb dX4_inFront_1 (by decide) ?_
  refine lv_icmp_ge (tgt := 7) hx hb dX4_inFront_2 (by decide) (fun c10655 => ?_) (fun c10655 => ?_)
  · have w10656 := cv_le (by decide : (1 : Int32).toInt = 1) (rfl : p0.toInt = p0.toInt) c10655
    refine lv_iload_n hx hb dX4_inFront_7 rfl (lv_at hl 1 rfl) ?_
    refine lv_iconst (v := 2) hx hb dX4_inFront_8 (by decide) ?_
    refine lv_iload_n hx hb dX4_inFront_9 rfl (lv_at hl 0 rfl) ?_
    refine lv_imul hx hb dX4_inFront_10 ?_
    refine lv_topi (fun z10657 ez10657 => ?_)
    have hz10657 : z10657.toInt = 2 * p0.toInt := ar_mul ez10657 (by decide : (2 : Int32).toInt = 2) (rfl : p0.toInt = p0.toInt) (by omega) (by omega)
    have rz10657 : 2 ≤ z10657.toInt ∧ z10657.toInt ≤ 14 := by omega
    refine lv_idiv hx hb dX4_inFront_11 (ne0_of (by omega)) ?_
    refine lv_topi (fun z10658 ez10658 => ?_)
    have rz10658 : 0 ≤ z10658.toInt ∧ z10658.toInt ≤ 47 := ar_divv ez10658 (A := 47) (by omega) (by omega)
    refine lv_istore_n (lv' := [(2, .int z10658), (0, .int p0), (1, .int p1)]) hx hb dX4_inFront_12 rfl hl (by decide) rfl (fun ls hl => ?_)
    refine lv_iload_n hx hb dX4_inFront_13 rfl (lv_at hl 2 rfl) ?_
    refine lv_iconst (v := 2) hx hb dX4_inFront_14 (by decide) ?_
    refine lv_iload_n hx hb dX4_inFront_15 rfl (lv_at hl 1 rfl) ?_
    refine lv_imul hx hb dX4_inFront_16 ?_
    refine lv_topi (fun z10659 ez10659 => ?_)
    have hz10659 : z10659.toInt = 2 * p0.toInt := ar_mul ez10659 (by decide : (2 : Int32).toInt = 2) (rfl : p0.toInt = p0.toInt) (by omega) (by omega)
    have rz10659 : 2 ≤ z10659.toInt ∧ z10659.toInt ≤ 14 := by omega
    refine lv_irem hx hb dX4_inFront_17 (ne0_of (by omega)) ?_
    refine lv_topi (fun z10660 ez10660 => ?_)
    have hz10660 := ar_remv ez10660 (by omega) (by omega)
    have rz10660 : 0 ≤ z10660.toInt ∧ z10660.toInt ≤ 13 := by omega
    refine lv_istore_n (lv' := [(3, .int z10660), (2, .int z10658), (0, .int p0), (1, .int p1)]) hx hb dX4_inFront_18 rfl hl (by decide) rfl (fun ls hl => ?_)
    refine lv_iload_n hx hb dX4_inFront_19 rfl (lv_at hl 1 rfl) ?_
    refine lv_iconst (v := 2) hx hb dX4_inFront_20 (by decide) ?_
    refine lv_iload_n hx hb dX4_inFront_21 rfl (lv_at hl 2 rfl) ?_
    refine lv_imul hx hb dX4_inFront_22 ?_
    refine lv_topi (fun z10661 ez10661 => ?_)
    have hz10661 : z10661.toInt = 2 * p0.toInt := ar_mul ez10661 (by decide : (2 : Int32).toInt = 2) (rfl : p0.toInt = p0.toInt) (by omega) (by omega)
    have rz10661 : 2 ≤ z10661.toInt ∧ z10661.toInt ≤ 14 := by omega
    refine lv_iconst (v := 2) hx hb dX4_inFront_23 (by decide) ?_
    refine lv_iadd hx hb dX4_inFront_24 ?_
    refine lv_topi (fun z10662 ez10662 => ?_)
    have hz10662 : z10662.toInt = z10661.toInt + 2 := ar_add ez10662 (rfl : z10661.toInt = z10661.toInt) (by decide : (2 : Int32).toInt = 2) (by omega) (by omega)
    have rz10662 : 4 ≤ z10662.toInt ∧ z10662.toInt ≤ 16 := by omega
    refine lv_imul hx hb dX4_inFront_25 ?_
    refine lv_topi (fun z10663 ez10663 => ?_)
    have rz10663 : 0 ≤ z10663.toInt ∧ z10663.toInt ≤ 752 := ar_mulb ez10663 (A := 47) (B := 16) (by omega) (by omega) (by decide) (by decide)
    refine lv_iload_n hx hb dX4_inFront_26 rfl (lv_at hl 0 rfl) ?_
    refine lv_iadd hx hb dX4_inFront_27 ?_
    refine lv_topi (fun z10664 ez10664 => ?_)
    have hz10664 : z10664.toInt = z10663.toInt + z10660.toInt := ar_add ez10664 (rfl : z10663.toInt = z10663.toInt) (rfl : z10660.toInt = z10660.toInt) (by omega) (by omega)
    have rz10664 : 0 ≤ z10664.toInt ∧ z10664.toInt ≤ 765 := by omega
    refine lv_iconst (v := 1) hx hb dX4_inFront_28 (by decide) ?_
    refine lv_iadd hx hb dX4_inFront_29 ?_
    refine lv_topi (fun z10665 ez10665 => ?_)
    have hz10665 : z10665.toInt = z10664.toInt + 1 := ar_add ez10665 (rfl : z10664.toInt = z10664.toInt) (by decide : (1 : Int32).toInt = 1) (by omega) (by omega)
    have rz10665 : 1 ≤ z10665.toInt ∧ z10665.toInt ≤ 766 := by omega
    exact t_iret hQ X hT (⟨rfl, (by omega)⟩) (Nat.le_of_ble_eq_true rfl) (Nat.le_of_ble_eq_true rfl) dX4_inFront_30
  · have w10666 := cv_nle (by decide : (1 : Int32).toInt = 1) (rfl : p0.toInt = p0.toInt) c10655
    refine lv_iconst (v := 0) hx hb dX4_inFront_5 (by decide) ?_
    exact t_iret hQ X hT (⟨rfl, (by decide)⟩) (Nat.le_of_ble_eq_true rfl) (Nat.le_of_ble_eq_true rfl) dX4_inFront_6
set_option maxHeartbeats 4000000 in
set_option maxRecDepth 100000 in
theorem kt40_X0_goIn (l : Launch) (G : KG) (tag : Nat → Nat) (L : List Nat) (Fo : Nat → va_E) (ho : okT G ttC tag L Fo) (p0 : Nat) (p1 : Nat) (p2 : Nat) (p3 : Int32) (p4 : Int32) (m0 : p0 ∈ L) (g0 : tag p0 = 21) (m1 : p1 ∈ L) (g1 : tag p1 = 18) (m2 : p2 ∈ L) (g2 : tag p2 = 19) (h3 : 0 ≤ p3.toInt ∧ p3.toInt ≤ 3) (h4 : (-2147483648) ≤ p4.toInt ∧ p4.toInt ≤ 7) : TMv l yX0_goIn cX0_goIn 10 { frames := 4, cells := 0, slots := 0, locals := 92 } G ttC tag L Fo [.ref p0, .ref p1, .ref p2, .int p3, .int p4] (fun F1 => ((∀ b j : Nat, (tag b ≠ 21 ∨ j ≠ 0) → (tag b ≠ 21 ∨ j ≠ 1) → fld F1 b j = fld Fo b j) ∧ EF tag F1 Fo)) := by
  refine t_bodyv (y := yX0_goIn) (cd := cX0_goIn) (mL := 10) (rm := { frames := 4, cells := 0, slots := 0, locals := 92 }) (av := [.ref p0, .ref p1, .ref p2, .int p3, .int p4]) (by decide) (Nat.le_of_ble_eq_true rfl) ho ?_
  intro p e s m args below meth c ls A Q hQ X hT hl
  have hx := X.1.1
  have hb := X.1.2.1
  have hl : lv_has ls 10 [(0, .ref p0), (1, .ref p1), (2, .ref p2), (3, .int p3), (4, .int p4)] := hl
  obtain ⟨F, hFo⟩ : ∃ F : Nat → va_E, F = Fo := ⟨_, rfl⟩
  rw [← hFo] at hT
  have hfr : (∀ b j : Nat, (tag b ≠ 21 ∨ j ≠ 0) → (tag b ≠ 21 ∨ j ≠ 1) → fld F b j = fld Fo b j) ∧ EF tag F Fo := by
    rw [hFo]
    exact ⟨by intros; rfl, fun _ _ _ => rfl⟩
  have K127 : ∀ (z12028 : Int32) (z12029 : Int32) (z12030 : Int32) (z12031 : Int32) (F : Nat → va_E) (H : Heap) (locs : List Loc) (ls : Array Slot), (0 ≤ z12031.toInt ∧ z12031.toInt ≤ 48) → TH G ttC A s tag L F H locs → ((∀ b j : Nat, (tag b ≠ 21 ∨ j ≠ 0) → (tag b ≠ 21 ∨ j ≠ 1) → fld F b j = fld Fo b j) ∧ EF tag F Fo) → lv_has ls 10 [(0, .ref p0), (1, .ref p1), (2, .ref p2), (3, .int p3), (4, .int p4), (5, .int z12028), (6, .int z12029), (7, .int z12030), (8, .int z12031)] → W p l e { frames := 4, cells := 0, slots := 0, locals := 92 } s m args below meth c H locs 0 0 Q (F0 m 127 ls []) := by
    intro z12028 z12029 z12030 z12031 F H locs ls rz12031 hT hfr hl
    have rz12028 := rg_all z12028
    have rz12029 := rg_all z12029
    have rz12030 := rg_all z12030
    refine lv_aload_n hx hb dX0_goIn_127 rfl (lv_at hl 0 rfl) ?_
    refine t_get (C := RX0) (T := TX0) (N := 2) X hT m0 g0 rfl rfl 0 (by decide) qw_88 inlX0 rfl dX0_goIn_128 (fun v12032 hv12032 ov12032 => ?_)
    obtain ⟨b12033, rfl, mb12033, gb12033⟩ := okV_r ov12032
    have gb12033 : tag b12033 = 12 := tg_of gb12033
    refine lv_astore (lv' := [(8, .ref b12033), (0, .ref p0), (1, .ref p1), (2, .ref p2), (3, .int p3), (4, .int p4), (5, .int z12028), (6, .int z12029), (7, .int z12030)]) hx hb dX0_goIn_131 hl (by decide) rfl (fun ls hl => ?_)
    refine lv_aload_n hx hb dX0_goIn_133 rfl (lv_at hl 1 rfl) ?_
    refine lv_aload_n hx hb dX0_goIn_134 rfl (lv_at hl 1 rfl) ?_
    refine t_get (C := RX0) (T := TX0) (N := 2) X hT m0 g0 rfl rfl 1 (by decide) qw_89 inlX0 rfl dX0_goIn_135 (fun v12034 hv12034 ov12034 => ?_)
    obtain ⟨b12035, rfl, mb12035, gb12035⟩ := okV_r ov12034
    have gb12035 : tag b12035 = 12 := tg_of gb12035
    refine t_put (C := RX0) (T := TX0) (N := 2) (v := .ref b12035) X hT m0 g0 rfl tyX0 tyX0_ok nmX0 rfl 0 (by decide) qw_88 inlX0 rfl (by first | rfl | decide) (by first | rfl | decide) rfl (⟨_, rfl, mb12035, by rw [gb12035]; rfl⟩) dX0_goIn_138 (fun F H locs hT v12036 h1v12036 h2v12036 => ?_)
    have hv12034 := (h1v12036 _ _ (Or.inr (by decide))).trans hv12034
    have hfr : (∀ b j : Nat, (tag b ≠ 21 ∨ j ≠ 0) → (tag b ≠ 21 ∨ j ≠ 1) → fld F b j = fld Fo b j) ∧ EF tag F Fo := ⟨fun b j n21_0 n21_1 => (h1v12036 b j (fr_ne g0 n21_0)).trans (hfr.1 b j n21_0 n21_1), fun b j hb => (h2v12036 b j).trans (hfr.2 b j hb)⟩
    refine lv_aload_n hx hb dX0_goIn_141 rfl (lv_at hl 1 rfl) ?_
    refine lv_aload hx hb dX0_goIn_142 (lv_at hl 0 rfl) ?_
    refine t_put (C := RX0) (T := TX0) (N := 2) (v := .ref b12033) X hT m0 g0 rfl tyX0 tyX0_ok nmX0 rfl 1 (by decide) qw_89 inlX0 rfl (by first | rfl | decide) (by first | rfl | decide) rfl (⟨_, rfl, mb12033, by rw [gb12033]; rfl⟩) dX0_goIn_144 (fun F H locs hT v12037 h1v12037 h2v12037 => ?_)
    have v12036 := (h1v12037 _ _ (Or.inr (by decide))).trans v12036
    have hfr : (∀ b j : Nat, (tag b ≠ 21 ∨ j ≠ 0) → (tag b ≠ 21 ∨ j ≠ 1) → fld F b j = fld Fo b j) ∧ EF tag F Fo := ⟨fun b j n21_0 n21_1 => (h1v12037 b j (fr_ne g0 n21_1)).trans (hfr.1 b j n21_0 n21_1), fun b j hb => (h2v12037 b j).trans (hfr.2 b j hb)⟩
    exact t_vret hQ X hT hfr (Nat.le_of_ble_eq_true rfl) (Nat.le_of_ble_eq_true rfl) dX0_goIn_147
  have K43 : ∀ (n : Nat) (z12038 : Int32) (z12039 : Int32) (z12040 : Int32) (z12041 : Int32) (F : Nat → va_E) (H : Heap) (locs : List Loc) (ls : Array Slot), (48 - z12041.toInt < (n : Int)) → (0 ≤ z12041.toInt ∧ z12041.toInt ≤ 48) → TH G ttC A s tag L F H locs → ((∀ b j : Nat, (tag b ≠ 21 ∨ j ≠ 0) → (tag b ≠ 21 ∨ j ≠ 1) → fld F b j = fld Fo b j) ∧ EF tag F Fo) → lv_has ls 10 [(0, .ref p0), (1, .ref p1), (2, .ref p2), (3, .int p3), (4, .int p4), (5, .int z12038), (6, .int z12039), (7, .int z12040), (8, .int z12041)] → W p l e { frames := 4, cells := 0, slots := 0, locals := 92 } s m args below meth c H locs 0 0 Q (F0 m 43 ls []) := by
    intro n
    induction n with
    | zero =>
      intro z12038 z12039 z12040 z12041 F H locs ls hn rz12041 hT hfr hl
      have rz12038 := rg_all z12038
      have rz12039 := rg_all z12039
      have rz12040 := rg_all z12040
      exfalso
      omega
    | succ n ih43 =>
      intro z12038 z12039 z12040 z12041 F H locs ls hn rz12041 hT hfr hl
      have rz12038 := rg_all z12038
      have rz12039 := rg_all z12039
      have rz12040 := rg_all z12040
      have K121 : ∀ (z12043 : Int32) (F : Nat → va_E) (H : Heap) (locs : List Loc) (ls : Array Slot), (0 ≤ z12043.toInt ∧ z12043.toInt ≤ 766) → (0 ≤ z12041.toInt ∧ z12041.toInt ≤ 47) → TH G ttC A s tag L F H locs → ((∀ b j : Nat, (tag b ≠ 21 ∨ j ≠ 0) → (tag b ≠ 21 ∨ j ≠ 1) → fld F b j = fld Fo b j) ∧ EF tag F Fo) → lv_has ls 10 [(0, .ref p0), (1, .ref p1), (2, .ref p2), (3, .int p3), (4, .int p4), (5, .int z12038), (6, .int z12039), (7, .int z12040), (8, .int z12041), (9, .int z12043)] → W p l e { frames := 4, cells := 0, slots := 0, locals := 92 } s m args below meth c H locs 0 0 Q (F0 m 121 ls []) := by
        intro z12043 F H locs ls rz12043 r9s12042 hT hfr hl
        obtain ⟨z12044, ez12044⟩ : ∃ y : Int32, y = z12041 + 1 := ⟨_, rfl⟩
        have hz12044 : z12044.toInt = z12041.toInt + 1 := ar_add ez12044 rfl (by decide : (1 : Int32).toInt = 1) (by omega) (by omega)
        refine lv_iinc (v := z12044) (lv' := [(8, .int z12044), (0, .ref p0), (1, .ref p1), (2, .ref p2), (3, .int p3), (4, .int p4), (5, .int z12038), (6, .int z12039), (7, .int z12040), (9, .int z12043)]) hx hb dX0_goIn_121 hl (k := 8) rfl (by rw [ez12044]; rfl) (by decide) rfl (fun ls hl => ?_)
        refine lv_goto (tgt := 43) hx hb dX0_goIn_124 (by decide) ?_
        exact ih43 z12038 z12039 z12040 z12044 _ _ _ _ (by omega) (by omega) hT hfr  (lv_sub hl [1, 2, 3, 4, 5, 6, 7, 8, 0] rfl)
      have K119 : ∀ (z12046 : Int32) (z12047 : Int32) (z12048 : Int32) (z12049 : Int32) (b12050 : Nat) (F : Nat → va_E) (H : Heap) (locs : List Loc) (ls : Array Slot), (0 ≤ z12046.toInt ∧ z12046.toInt ≤ 47) → (0 ≤ z12049.toInt ∧ z12049.toInt ≤ 47) → (b12050 ∈ L) → (tag b12050 = 12) → (0 ≤ z12041.toInt ∧ z12041.toInt ≤ 47) → TH G ttC A s tag L F H locs → ((∀ b j : Nat, (tag b ≠ 21 ∨ j ≠ 0) → (tag b ≠ 21 ∨ j ≠ 1) → fld F b j = fld Fo b j) ∧ EF tag F Fo) → lv_has ls 10 [(0, .ref p0), (1, .ref p1), (2, .ref p2), (3, .int p3), (4, .int p4), (5, .int z12038), (6, .int z12039), (7, .int z12040), (8, .int z12041), (9, .int z12046)] → W p l e { frames := 4, cells := 0, slots := 0, locals := 92 } s m args below meth c H locs 0 0 Q (F0 m 119 ls [.int z12047, .int z12048, .int z12049, .ref b12050]) := by
        intro z12046 z12047 z12048 z12049 b12050 F H locs ls rz12046 rz12049 mb12050 gb12050 r9s12045 hT hfr hl
        have rz12047 := rg_all z12047
        have rz12048 := rg_all z12048
        refine lv_iadd hx hb dX0_goIn_119 ?_
        refine lv_topi (fun z12051 ez12051 => ?_)
        have rz12051 := rg_all z12051
        refine t_ist X hT mb12050 gb12050 rfl (by omega) (show (-2147483648) ≤ (z12051 : Int32).toInt ∧ (z12051 : Int32).toInt ≤ 2147483647 from (by omega)) dX0_goIn_120 (fun F H locs hT v12052 h1v12052 h2v12052 => ?_)
        have hfr : (∀ b j : Nat, (tag b ≠ 21 ∨ j ≠ 0) → (tag b ≠ 21 ∨ j ≠ 1) → fld F b j = fld Fo b j) ∧ EF tag F Fo := ⟨fun b j n21_0 n21_1 => (h2v12052 b j).trans (hfr.1 b j n21_0 n21_1), fun b j hb => (h1v12052 b j (Or.inl (ns_ne hb gb12050 (by decide)))).trans (hfr.2 b j hb)⟩
        exact K121 z12046 _ _ _ _ (by omega) (by omega) hT hfr  (lv_sub hl [0, 1, 2, 3, 4, 5, 6, 7, 8, 9] rfl)
      refine lv_iload hx hb dX0_goIn_43 (lv_at hl 8 rfl) ?_
      refine lv_bipush (v := 8) hx hb dX0_goIn_45 (by decide) ?_
      refine lv_iload hx hb dX0_goIn_47 (lv_at hl 4 rfl) ?_
      refine lv_imul hx hb dX0_goIn_49 ?_
      refine lv_topi (fun z12053 ez12053 => ?_)
      have rz12053 := rg_all z12053
      refine lv_icmp_ge (tgt := 127) hx hb dX0_goIn_50 (by decide) (fun c12054 => ?_) (fun c12054 => ?_)
      · have w12055 := cv_le (rfl : z12053.toInt = z12053.toInt) (rfl : z12041.toInt = z12041.toInt) c12054
        exact K127 z12038 z12039 z12040 z12041 _ _ _ _ (by omega) hT hfr  (lv_sub hl [0, 1, 2, 3, 4, 5, 6, 7, 8] rfl)
      · have w12056 := cv_nle (rfl : z12053.toInt = z12053.toInt) (rfl : z12041.toInt = z12041.toInt) c12054
        refine lv_iload hx hb dX0_goIn_53 (lv_at hl 8 rfl) ?_
        refine lv_aload_n hx hb dX0_goIn_55 rfl (lv_at hl 0 rfl) ?_
        refine t_get (C := RX0) (T := TX0) (N := 2) X hT m0 g0 rfl rfl 1 (by decide) qw_89 inlX0 rfl dX0_goIn_56 (fun v12057 hv12057 ov12057 => ?_)
        obtain ⟨b12058, rfl, mb12058, gb12058⟩ := okV_r ov12057
        have gb12058 : tag b12058 = 12 := tg_of gb12058
        refine t_alen X hT mb12058 gb12058 rfl (by decide) dX0_goIn_59 ?_
        refine lv_topi (fun z12059 ez12059 => ?_)
        obtain rfl : z12059 = 48 := ez12059.trans (by rfl)
        refine lv_icmp_ge (tgt := 127) hx hb dX0_goIn_60 (by decide) (fun c12060 => ?_) (fun c12060 => ?_)
        · have w12061 := cv_le (by decide : (48 : Int32).toInt = 48) (rfl : z12041.toInt = z12041.toInt) c12060
          exact K127 z12038 z12039 z12040 z12041 _ _ _ _ (by omega) hT hfr  (lv_sub hl [0, 1, 2, 3, 4, 5, 6, 7, 8] rfl)
        · have w12062 := cv_nle (by decide : (48 : Int32).toInt = 48) (rfl : z12041.toInt = z12041.toInt) c12060
          refine lv_iload hx hb dX0_goIn_63 (lv_at hl 4 rfl) ?_
          refine lv_iload hx hb dX0_goIn_65 (lv_at hl 8 rfl) ?_
          refine t_cSi (n := 2) (As := [.int p4, .int z12041]) (rest := []) X hT (kt39_X4_inFront l G tag L F hT.2.2.2 p4 z12041 (by omega) (by omega)) qw_1044 qw_923 qw_409 qw_924 ⟨by decide +kernel, by decide +kernel, by decide +kernel⟩ ⟨Nat.le_of_ble_eq_true rfl, Nat.le_of_ble_eq_true rfl⟩ hl rfl rfl (Nat.le_of_ble_eq_true rfl) dX0_goIn_67 ⟨Nat.le_of_ble_eq_true rfl, Nat.le_of_ble_eq_true rfl⟩ (fun z12063 F9 H locs hT hz12063 => ?_)
          obtain ⟨fz12063, hz12063⟩ := hz12063
          rw [fz12063] at hT
          refine lv_istore (lv' := [(9, .int z12063), (0, .ref p0), (1, .ref p1), (2, .ref p2), (3, .int p3), (4, .int p4), (5, .int z12038), (6, .int z12039), (7, .int z12040), (8, .int z12041)]) hx hb dX0_goIn_70 hl (by decide) rfl (fun ls hl => ?_)
          refine lv_iload hx hb dX0_goIn_72 (lv_at hl 5 rfl) ?_
          refine lv_iload hx hb dX0_goIn_74 (lv_at hl 9 rfl) ?_
          refine t_cSi (n := 2) (As := [.int p4, .int z12041]) (rest := []) X hT (kt3_X4_isCorner l G tag L F hT.2.2.2 p4 z12041 ) qw_1045 qw_1046 qw_409 qw_1047 ⟨by decide +kernel, by decide +kernel, by decide +kernel⟩ ⟨Nat.le_of_ble_eq_true rfl, Nat.le_of_ble_eq_true rfl⟩ hl rfl rfl (Nat.le_of_ble_eq_true rfl) dX0_goIn_76 ⟨Nat.le_of_ble_eq_true rfl, Nat.le_of_ble_eq_true rfl⟩ (fun z12064 F9 H locs hT hz12064 => ?_)
          obtain ⟨fz12064, hz12064⟩ := hz12064
          rw [fz12064] at hT
          refine lv_if_ne (tgt := 121) hx hb dX0_goIn_79 (by decide) (fun c12065 => ?_) (fun c12065 => ?_)
          · have w12066 := cv_ne (rfl : z12064.toInt = z12064.toInt) (by decide : (0 : Int32).toInt = 0) c12065
            exact K121 z12063 _ _ _ _ (by omega) (by omega) hT hfr  (lv_sub hl [1, 2, 3, 4, 5, 6, 7, 8, 9, 0] rfl)
          · have w12067 := cv_eq (rfl : z12064.toInt = z12064.toInt) (by decide : (0 : Int32).toInt = 0) c12065
            refine lv_iload hx hb dX0_goIn_82 (lv_at hl 0 rfl) ?_
            refine lv_aload_n hx hb dX0_goIn_84 rfl (lv_at hl 1 rfl) ?_
            refine t_get (C := RX0) (T := TX0) (N := 2) X hT m0 g0 rfl rfl 0 (by decide) qw_88 inlX0 rfl dX0_goIn_85 (fun v12068 hv12068 ov12068 => ?_)
            obtain ⟨b12069, rfl, mb12069, gb12069⟩ := okV_r ov12068
            have gb12069 : tag b12069 = 12 := tg_of gb12069
            refine t_alen X hT mb12069 gb12069 rfl (by decide) dX0_goIn_88 ?_
            refine lv_topi (fun z12070 ez12070 => ?_)
            obtain rfl : z12070 = 48 := ez12070.trans (by rfl)
            refine lv_icmp_ge (tgt := 121) hx hb dX0_goIn_89 (by decide) (fun c12071 => ?_) (fun c12071 => ?_)
            · have w12072 := cv_le (by decide : (48 : Int32).toInt = 48) (rfl : z12063.toInt = z12063.toInt) c12071
              exact K121 z12063 _ _ _ _ (by omega) (by omega) hT hfr  (lv_sub hl [1, 2, 3, 4, 5, 6, 7, 8, 9, 0] rfl)
            · have w12073 := cv_nle (by decide : (48 : Int32).toInt = 48) (rfl : z12063.toInt = z12063.toInt) c12071
              refine lv_aload_n hx hb dX0_goIn_92 rfl (lv_at hl 1 rfl) ?_
              refine t_get (C := RX0) (T := TX0) (N := 2) X hT m0 g0 rfl rfl 1 (by decide) qw_89 inlX0 rfl dX0_goIn_93 (fun v12074 hv12074 ov12074 => ?_)
              obtain rfl : v12074 = .ref b12058 := hv12074.symm.trans hv12057
              refine lv_iload hx hb dX0_goIn_96 (lv_at hl 9 rfl) ?_
              refine lv_aload_n hx hb dX0_goIn_98 rfl (lv_at hl 1 rfl) ?_
              refine t_get (C := RX0) (T := TX0) (N := 2) X hT m0 g0 rfl rfl 0 (by decide) qw_88 inlX0 rfl dX0_goIn_99 (fun v12075 hv12075 ov12075 => ?_)
              obtain rfl : v12075 = .ref b12069 := hv12075.symm.trans hv12068
              refine lv_iload hx hb dX0_goIn_102 (lv_at hl 0 rfl) ?_
              refine t_ild X hT mb12069 gb12069 rfl (by omega) dX0_goIn_104 (fun z12076 vz12076 rz12076 => ?_)
              have rz12076 : (-2147483648) ≤ z12076.toInt ∧ z12076.toInt ≤ 2147483647 := rz12076
              refine lv_iload hx hb dX0_goIn_105 (lv_at hl 9 rfl) ?_
              refine lv_iload hx hb dX0_goIn_107 (lv_at hl 6 rfl) ?_
              refine lv_icmp_ne (tgt := 117) hx hb dX0_goIn_109 (by decide) (fun c12077 => ?_) (fun c12077 => ?_)
              · have w12078 := cv_ne (rfl : z12041.toInt = z12041.toInt) (rfl : z12038.toInt = z12038.toInt) c12077
                refine lv_iload hx hb dX0_goIn_117 (lv_at hl 7 rfl) ?_
                exact K119 z12063 z12039 z12076 z12041 b12058 _ _ _ _ (by omega) (by omega) mb12058 gb12058 (by omega) hT hfr  (lv_sub hl [1, 2, 3, 4, 5, 6, 7, 8, 9, 0] rfl)
              · have w12079 := cv_eq (rfl : z12041.toInt = z12041.toInt) (rfl : z12038.toInt = z12038.toInt) c12077
                refine lv_iload hx hb dX0_goIn_112 (lv_at hl 8 rfl) ?_
                refine lv_goto (tgt := 119) hx hb dX0_goIn_114 (by decide) ?_
                exact K119 z12063 z12040 z12076 z12041 b12058 _ _ _ _ (by omega) (by omega) mb12058 gb12058 (by omega) hT hfr  (lv_sub hl [1, 2, 3, 4, 5, 6, 7, 8, 9, 0] rfl)
  refine lv_aload_n hx hb dX0_goIn_0 rfl (lv_at hl 2 rfl) ?_
  refine lv_iload_n hx hb dX0_goIn_1 rfl (lv_at hl 3 rfl) ?_
  refine lv_iload hx hb dX0_goIn_2 (lv_at hl 4 rfl) ?_
  refine t_cVi (n := 2) (C := RX7) (T := TX7) (N := 7) (As := [.int p3, .int p4]) (rest := []) X hT (kt24_X7_doorOf l G tag L F hT.2.2.2 p2 p3 p4 m2 g2) m2 g2 rfl rfl qw_1024 qw_918 qw_919 qw_22 qw_920 ⟨rfl, by decide +kernel, by decide +kernel, by decide +kernel⟩ ⟨Nat.le_of_ble_eq_true rfl, Nat.le_of_ble_eq_true rfl⟩ hl rfl rfl (Nat.le_of_ble_eq_true rfl) dX0_goIn_4 ⟨Nat.le_of_ble_eq_true rfl, Nat.le_of_ble_eq_true rfl⟩ (fun z12080 F9 H locs hT hz12080 => ?_)
  obtain ⟨fz12080, hz12080⟩ := hz12080
  rw [fz12080] at hT
  refine lv_istore (lv' := [(5, .int z12080), (0, .ref p0), (1, .ref p1), (2, .ref p2), (3, .int p3), (4, .int p4)]) hx hb dX0_goIn_7 hl (by decide) rfl (fun ls hl => ?_)
  refine lv_aload_n hx hb dX0_goIn_9 rfl (lv_at hl 2 rfl) ?_
  refine lv_aload_n hx hb dX0_goIn_10 rfl (lv_at hl 3 rfl) ?_
  refine lv_iload_n hx hb dX0_goIn_11 rfl (lv_at hl 4 rfl) ?_
  refine lv_iload hx hb dX0_goIn_12 (lv_at hl 5 rfl) ?_
  refine t_cSi (n := 4) (As := [.ref p1, .ref p2, .int p3, .int p4]) (rest := []) X hT (kt35_X0_byWall l G tag L F hT.2.2.2 p1 p2 p3 p4 m1 g1 m2 g2) qw_1031 qw_1032 qw_36 qw_1033 ⟨by decide +kernel, by decide +kernel, by decide +kernel⟩ ⟨Nat.le_of_ble_eq_true rfl, Nat.le_of_ble_eq_true rfl⟩ hl rfl rfl (Nat.le_of_ble_eq_true rfl) dX0_goIn_14 ⟨Nat.le_of_ble_eq_true rfl, Nat.le_of_ble_eq_true rfl⟩ (fun z12081 F9 H locs hT hz12081 => ?_)
  obtain ⟨fz12081, hz12081⟩ := hz12081
  rw [fz12081] at hT
  refine lv_istore (lv' := [(6, .int z12081), (5, .int z12080), (0, .ref p0), (1, .ref p1), (2, .ref p2), (3, .int p3), (4, .int p4)]) hx hb dX0_goIn_17 hl (by decide) rfl (fun ls hl => ?_)
  refine lv_iload hx hb dX0_goIn_19 (lv_at hl 0 rfl) ?_
  refine lv_aload_n hx hb dX0_goIn_21 rfl (lv_at hl 4 rfl) ?_
  refine lv_iload_n hx hb dX0_goIn_22 rfl (lv_at hl 5 rfl) ?_
  refine lv_iload hx hb dX0_goIn_23 (lv_at hl 6 rfl) ?_
  refine t_cSi (n := 3) (As := [.ref p2, .int p3, .int p4]) (rest := [.int z12081]) X hT (kt34_X0_byDoor l G tag L F hT.2.2.2 p2 p3 p4 m2 g2) qw_1025 qw_1026 qw_36 qw_1027 ⟨by decide +kernel, by decide +kernel, by decide +kernel⟩ ⟨Nat.le_of_ble_eq_true rfl, Nat.le_of_ble_eq_true rfl⟩ hl rfl rfl (Nat.le_of_ble_eq_true rfl) dX0_goIn_25 ⟨Nat.le_of_ble_eq_true rfl, Nat.le_of_ble_eq_true rfl⟩ (fun z12082 F9 H locs hT hz12082 => ?_)
  obtain ⟨fz12082, hz12082⟩ := hz12082
  rw [fz12082] at hT
  refine t_mmin X hl qw_1017 qw_1018 qw_850 qw_1019 (Nat.le_of_ble_eq_true rfl) (Nat.le_of_ble_eq_true rfl) (Nat.le_of_ble_eq_true rfl) (Nat.le_of_ble_eq_true rfl) dX0_goIn_28 (fun z12083 ez12083 => ?_)
  have hz12083 := mmin_e ez12083 (rfl : z12081.toInt = z12081.toInt) (rfl : z12082.toInt = z12082.toInt)
  refine lv_istore (lv' := [(7, .int z12083), (6, .int z12081), (5, .int z12080), (0, .ref p0), (1, .ref p1), (2, .ref p2), (3, .int p3), (4, .int p4)]) hx hb dX0_goIn_31 hl (by decide) rfl (fun ls hl => ?_)
  refine lv_aload_n hx hb dX0_goIn_33 rfl (lv_at hl 3 rfl) ?_
  refine t_get (C := RX0) (T := TX0) (N := 2) X hT m0 g0 rfl rfl 1 (by decide) qw_89 inlX0 rfl dX0_goIn_34 (fun v12084 hv12084 ov12084 => ?_)
  obtain ⟨b12085, rfl, mb12085, gb12085⟩ := okV_r ov12084
  have gb12085 : tag b12085 = 12 := tg_of gb12085
  refine t_cSv (n := 1) (As := [.ref b12085]) (rest := []) X hT (kt36_X0_empty l G tag L F hT.2.2.2 b12085 mb12085 gb12085) qw_1020 qw_1021 qw_36 qw_1022 ⟨by decide +kernel, by decide +kernel, by decide +kernel⟩ ⟨Nat.le_of_ble_eq_true rfl, Nat.le_of_ble_eq_true rfl⟩ hl rfl rfl (Nat.le_of_ble_eq_true rfl) dX0_goIn_37 ⟨Nat.le_of_ble_eq_true rfl, Nat.le_of_ble_eq_true rfl⟩ (fun F H locs hT hz12086 => ?_)
  have yz12086 := hz12086
  have hv12084 := (yz12086.1 _ 1 ).trans hv12084
  have hfr : (∀ b j : Nat, (tag b ≠ 21 ∨ j ≠ 0) → (tag b ≠ 21 ∨ j ≠ 1) → fld F b j = fld Fo b j) ∧ EF tag F Fo := ⟨fun b j n21_0 n21_1 => (yz12086.1 b j ).trans (hfr.1 b j n21_0 n21_1), fun b j hb => (yz12086.2 b j hb).trans (hfr.2 b j hb)⟩
  refine lv_iconst (v := 0) hx hb dX0_goIn_40 (by decide) ?_
  refine lv_istore (lv' := [(8, .int 0), (7, .int z12083), (6, .int z12081), (5, .int z12080), (0, .ref p0), (1, .ref p1), (2, .ref p2), (3, .int p3), (4, .int p4)]) hx hb dX0_goIn_41 hl (by decide) rfl (fun ls hl => ?_)
  have kk12087 : (0 : Int32).toInt = 0 := by decide
  exact K43 49 z12080 z12081 z12083 0 _ _ _ _ (by omega) (by decide) hT hfr  (lv_sub hl [4, 5, 6, 7, 8, 3, 2, 1, 0] rfl)
