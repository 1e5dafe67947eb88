set_option maxHeartbeats 4000000 in
set_option maxRecDepth 100000 in
theorem kt156_X11_light (l : Launch) (G : KG) (tag : Nat → Nat) (L : List Nat) (Fo : Nat → va_E) (ho : okT G ttC tag L Fo) (p0 : Nat) (p1 : Int32) (p2 : Int32) (m0 : p0 ∈ L) (g0 : tag p0 = 26) : TMi l yX11_light cX11_light 3 (some .int) { frames := 2, cells := 0, slots := 0, locals := 43 } G ttC tag L Fo [.ref p0, .int p1, .int p2] (fun r F1 => ((-2147483648) ≤ r.toInt ∧ r.toInt ≤ 2147483647) ∧ (∀ b j : Nat, (tag b ≠ 26 ∨ j ≠ 13) → fld F1 b j = fld Fo b j)) := by
  refine t_bodyi (y := yX11_light) (cd := cX11_light) (mL := 3) (rt := (some .int)) (rm := { frames := 2, cells := 0, slots := 0, locals := 43 }) (av := [.ref p0, .int p1, .int p2]) (by decide) (Nat.le_of_ble_eq_true rfl) ho ?_
  intro p e s m args below meth c ls A Q hQ X hT hl
  have hx := X.1.1
  have hb := X.1.2.1
  have hl : lv_has ls 3 [(0, .ref p0), (1, .int p1), (2, .int p2)] := hl
  have rp1 := rg_all p1
  have rp2 := rg_all p2
  obtain ⟨F, hFo⟩ : ∃ F : Nat → va_E, F = Fo := ⟨_, rfl⟩
  rw [← hFo] at hT
  have hfr : ∀ b j : Nat, (tag b ≠ 26 ∨ j ≠ 13) → fld F b j = fld Fo b j := by
    rw [hFo]
    intros
    rfl
  refine lv_aload_n hx hb dX11_light_0 rfl (lv_at hl 0 rfl) ?_
  refine lv_iload_n hx hb dX11_light_1 rfl (lv_at hl 1 rfl) ?_
  refine lv_iload_n hx hb dX11_light_2 rfl (lv_at hl 2 rfl) ?_
  refine t_cVi (n := 2) (C := RX11) (T := TX11) (N := 16) (As := [.int p1, .int p2]) (rest := []) X hT (kt94_X11_isRoom l G tag L F hT.2.2.2 p0 p1 p2 m0 g0) m0 g0 rfl rfl qw_827 qw_828 qw_829 qw_2 qw_830 ⟨rfl, by decide +kernel, by decide +kernel, by decide +kernel⟩ ⟨Nat.le_of_ble_eq_true rfl, Nat.le_of_ble_eq_true rfl⟩ hl rfl rfl (Nat.le_of_ble_eq_true rfl) dX11_light_3 ⟨Nat.le_of_ble_eq_true rfl, Nat.le_of_ble_eq_true rfl⟩ (fun z56089 F9 H locs hT hz56089 => ?_)
  obtain ⟨fz56089, hz56089⟩ := hz56089
  rw [fz56089] at hT
  obtain ⟨hz56089, iz56089⟩ := hz56089
  refine lv_if_ne (tgt := 15) hx hb dX11_light_6 (by decide) (fun c56090 => ?_) (fun c56090 => ?_)
  · have w56091 := cv_ne (rfl : z56089.toInt = z56089.toInt) (by decide : (0 : Int32).toInt = 0) c56090
    have w56092 := (fun h => (iz56089 h).1) (by omega)
    have w56093 := (fun h => (iz56089 h).2) (by omega)
    refine lv_aload_n hx hb dX11_light_15 rfl (lv_at hl 0 rfl) ?_
    refine lv_iconst (v := 0) hx hb dX11_light_16 (by decide) ?_
    refine lv_bipush (v := 9) hx hb dX11_light_17 (by decide) ?_
    refine lv_iconst (v := 3) hx hb dX11_light_19 (by decide) ?_
    refine lv_aload_n hx hb dX11_light_20 rfl (lv_at hl 0 rfl) ?_
    refine t_get (C := RX11) (T := TX11) (N := 16) X hT m0 g0 rfl rfl 5 (by decide) qw_23 inlX11 rfl dX11_light_21 (fun v56094 hv56094 ov56094 => ?_)
    obtain ⟨b56095, rfl, mb56095, gb56095⟩ := okV_r ov56094
    have gb56095 : tag b56095 = 19 := tg_of gb56095
    refine t_get (C := RX7) (T := TX7) (N := 7) X hT mb56095 gb56095 rfl rfl 2 (by decide) qw_766 inlX7 rfl dX11_light_24 (fun v56096 hv56096 ov56096 => ?_)
    obtain ⟨b56097, rfl, mb56097, gb56097⟩ := okV_r ov56096
    have gb56097 : tag b56097 = 8 := tg_of gb56097
    refine lv_iload_n hx hb dX11_light_27 rfl (lv_at hl 1 rfl) ?_
    refine t_ild X hT mb56097 gb56097 rfl (by omega) dX11_light_28 (fun z56098 vz56098 rz56098 => ?_)
    have rz56098 : 0 ≤ z56098.toInt ∧ z56098.toInt ≤ 6 := rz56098
    refine lv_iload_n hx hb dX11_light_29 rfl (lv_at hl 2 rfl) ?_
    refine lv_isub hx hb dX11_light_30 ?_
    refine lv_topi (fun z56099 ez56099 => ?_)
    have hz56099 : z56099.toInt = z56098.toInt - p2.toInt := ar_sub ez56099 (rfl : z56098.toInt = z56098.toInt) (rfl : p2.toInt = p2.toInt) (by omega) (by omega)
    have rz56099 : (-6) ≤ z56099.toInt ∧ z56099.toInt ≤ 6 := by omega
    refine lv_imul hx hb dX11_light_31 ?_
    refine lv_topi (fun z56100 ez56100 => ?_)
    have hz56100 : z56100.toInt = 3 * z56099.toInt := ar_mul ez56100 (by decide : (3 : Int32).toInt = 3) (rfl : z56099.toInt = z56099.toInt) (by omega) (by omega)
    have rz56100 : (-18) ≤ z56100.toInt ∧ z56100.toInt ≤ 18 := by omega
    refine lv_isub hx hb dX11_light_32 ?_
    refine lv_topi (fun z56101 ez56101 => ?_)
    have hz56101 : z56101.toInt = 9 - z56100.toInt := ar_sub ez56101 (by decide : (9 : Int32).toInt = 9) (rfl : z56100.toInt = z56100.toInt) (by omega) (by omega)
    have rz56101 : (-9) ≤ z56101.toInt ∧ z56101.toInt ≤ 27 := by omega
    refine t_mmax X hl qw_848 qw_849 qw_850 qw_851 (Nat.le_of_ble_eq_true rfl) (Nat.le_of_ble_eq_true rfl) (Nat.le_of_ble_eq_true rfl) (Nat.le_of_ble_eq_true rfl) dX11_light_33 (fun z56102 ez56102 => ?_)
    have hz56102 := mmax_e ez56102 (by decide : (0 : Int32).toInt = 0) (rfl : z56101.toInt = z56101.toInt)
    refine t_cVi (n := 1) (C := RX11) (T := TX11) (N := 16) (As := [.int z56102]) (rest := []) X hT (kt96_X11_answer l G tag L F hT.2.2.2 p0 z56102 m0 g0) m0 g0 rfl rfl qw_463 qw_464 qw_465 qw_2 qw_466 ⟨rfl, by decide +kernel, by decide +kernel, by decide +kernel⟩ ⟨Nat.le_of_ble_eq_true rfl, Nat.le_of_ble_eq_true rfl⟩ hl rfl rfl (Nat.le_of_ble_eq_true rfl) dX11_light_36 ⟨Nat.le_of_ble_eq_true rfl, Nat.le_of_ble_eq_true rfl⟩ (fun z56103 F H locs hT hz56103 => ?_)
    obtain ⟨hz56103, yz56103⟩ := hz56103
    have hv56094 := (yz56103 _ 5 (Or.inr (by decide))).trans hv56094
    have hv56096 := (yz56103 _ 2 (Or.inr (by decide))).trans hv56096
    have hfr : ∀ b j : Nat, (tag b ≠ 26 ∨ j ≠ 13) → fld F b j = fld Fo b j := fun b j n26_13 => (yz56103 b j n26_13).trans (hfr b j n26_13)
    exact t_iret hQ X hT (⟨rg_all _, hfr⟩) (Nat.le_of_ble_eq_true rfl) (Nat.le_of_ble_eq_true rfl) dX11_light_39
  · have w56104 := cv_eq (rfl : z56089.toInt = z56089.toInt) (by decide : (0 : Int32).toInt = 0) c56090
    refine lv_aload_n hx hb dX11_light_9 rfl (lv_at hl 0 rfl) ?_
    refine lv_iconst (v := 1) hx hb dX11_light_10 (by decide) ?_
    refine t_cVi (n := 1) (C := RX11) (T := TX11) (N := 16) (As := [.int 1]) (rest := []) X hT (kt97_X11_refuse l G tag L F hT.2.2.2 p0 1 m0 g0) m0 g0 rfl rfl qw_152 qw_153 qw_154 qw_2 qw_155 ⟨rfl, by decide +kernel, by decide +kernel, by decide +kernel⟩ ⟨Nat.le_of_ble_eq_true rfl, Nat.le_of_ble_eq_true rfl⟩ hl rfl rfl (Nat.le_of_ble_eq_true rfl) dX11_light_11 ⟨Nat.le_of_ble_eq_true rfl, Nat.le_of_ble_eq_true rfl⟩ (fun z56105 F H locs hT hz56105 => ?_)
    obtain ⟨hz56105, yz56105⟩ := hz56105
    have hfr : ∀ b j : Nat, (tag b ≠ 26 ∨ j ≠ 13) → fld F b j = fld Fo b j := fun b j n26_13 => (yz56105 b j n26_13).trans (hfr b j n26_13)
    exact t_iret hQ X hT (⟨rg_all _, hfr⟩) (Nat.le_of_ble_eq_true rfl) (Nat.le_of_ble_eq_true rfl) dX11_light_14
set_option maxHeartbeats 4000000 in
set_option maxRecDepth 100000 in
theorem kt157_X11_lock (l : Launch) (G : KG) (tag : Nat → Nat) (L : List Nat) (Fo : Nat → va_E) (ho : okT G ttC tag L Fo) (p0 : Nat) (p1 : Int32) (p2 : Int32) (p3 : Int32) (m0 : p0 ∈ L) (g0 : tag p0 = 26) : TMi l yX11_lock cX11_lock 4 (some .boolean) { frames := 3, cells := 0, slots := 0, locals := 66 } G ttC tag L Fo [.ref p0, .int p1, .int p2, .int p3] (fun r F1 => (0 ≤ r.toInt ∧ r.toInt ≤ 1) ∧ (∀ b j : Nat, (tag b ≠ 19 ∨ j ≠ 0) → (tag b ≠ 19 ∨ j ≠ 1) → (tag b ≠ 23 ∨ j ≠ 2) → (tag b ≠ 23 ∨ j ≠ 3) → (tag b ≠ 26 ∨ j ≠ 13) → fld F1 b j = fld Fo b j)) := by
  refine t_bodyi (y := yX11_lock) (cd := cX11_lock) (mL := 4) (rt := (some .boolean)) (rm := { frames := 3, cells := 0, slots := 0, locals := 66 }) (av := [.ref p0, .int p1, .int p2, .int p3]) (by decide) (Nat.le_of_ble_eq_true rfl) ho ?_
  intro p e s m args below meth c ls A Q hQ X hT hl
  have hx := X.1.1
  have hb := X.1.2.1
  have hl : lv_has ls 4 [(0, .ref p0), (1, .int p1), (2, .int p2), (3, .int p3)] := hl
  have rp1 := rg_all p1
  have rp2 := rg_all p2
  have rp3 := rg_all p3
  obtain ⟨F, hFo⟩ : ∃ F : Nat → va_E, F = Fo := ⟨_, rfl⟩
  rw [← hFo] at hT
  have hfr : ∀ b j : Nat, (tag b ≠ 19 ∨ j ≠ 0) → (tag b ≠ 19 ∨ j ≠ 1) → (tag b ≠ 23 ∨ j ≠ 2) → (tag b ≠ 23 ∨ j ≠ 3) → (tag b ≠ 26 ∨ j ≠ 13) → fld F b j = fld Fo b j := by
    rw [hFo]
    intros
    rfl
  have K25 : ∀  (F : Nat → va_E) (H : Heap) (locs : List Loc) (ls : Array Slot), (0 ≤ p1.toInt ∧ p1.toInt ≤ 3) → (1 ≤ p2.toInt ∧ p2.toInt ≤ 6) → TH G ttC A s tag L F H locs → (∀ b j : Nat, (tag b ≠ 19 ∨ j ≠ 0) → (tag b ≠ 19 ∨ j ≠ 1) → (tag b ≠ 23 ∨ j ≠ 2) → (tag b ≠ 23 ∨ j ≠ 3) → (tag b ≠ 26 ∨ j ≠ 13) → fld F b j = fld Fo b j) → lv_has ls 4 [(0, .ref p0), (1, .int p1), (2, .int p2), (3, .int p3)] → W p l e { frames := 3, cells := 0, slots := 0, locals := 66 } s m args below meth c H locs 0 0 Q (F0 m 25 ls []) := by
    intro F H locs ls r9s56425 r9s56426 hT hfr hl
    refine lv_aload_n hx hb dX11_lock_25 rfl (lv_at hl 0 rfl) ?_
    refine lv_iconst (v := 2) hx hb dX11_lock_26 (by decide) ?_
    refine t_cVi (n := 1) (C := RX11) (T := TX11) (N := 16) (As := [.int 2]) (rest := []) X hT (kt90_X11_no l G tag L F hT.2.2.2 p0 2 m0 g0) m0 g0 rfl rfl qw_1454 qw_1455 qw_1456 qw_2 qw_1457 ⟨rfl, by decide +kernel, by decide +kernel, by decide +kernel⟩ ⟨Nat.le_of_ble_eq_true rfl, Nat.le_of_ble_eq_true rfl⟩ hl rfl rfl (Nat.le_of_ble_eq_true rfl) dX11_lock_27 ⟨Nat.le_of_ble_eq_true rfl, Nat.le_of_ble_eq_true rfl⟩ (fun z56427 F H locs hT hz56427 => ?_)
    obtain ⟨hz56427, yz56427⟩ := hz56427
    have hfr : ∀ b j : Nat, (tag b ≠ 19 ∨ j ≠ 0) → (tag b ≠ 19 ∨ j ≠ 1) → (tag b ≠ 23 ∨ j ≠ 2) → (tag b ≠ 23 ∨ j ≠ 3) → (tag b ≠ 26 ∨ j ≠ 13) → fld F b j = fld Fo b j := fun b j n19_0 n19_1 n23_2 n23_3 n26_13 => (yz56427 b j n26_13).trans (hfr b j n19_0 n19_1 n23_2 n23_3 n26_13)
    exact t_zret hQ X hT (nar_z (by omega)) (⟨(by omega), hfr⟩) (Nat.le_of_ble_eq_true rfl) (Nat.le_of_ble_eq_true rfl) dX11_lock_30
  refine lv_aload_n hx hb dX11_lock_0 rfl (lv_at hl 0 rfl) ?_
  refine lv_iload_n hx hb dX11_lock_1 rfl (lv_at hl 1 rfl) ?_
  refine lv_iload_n hx hb dX11_lock_2 rfl (lv_at hl 2 rfl) ?_
  refine t_cVi (n := 2) (C := RX11) (T := TX11) (N := 16) (As := [.int p1, .int p2]) (rest := []) X hT (kt104_X11_isSkin l G tag L F hT.2.2.2 p0 p1 p2 m0 g0) m0 g0 rfl rfl qw_823 qw_824 qw_825 qw_2 qw_826 ⟨rfl, by decide +kernel, by decide +kernel, by decide +kernel⟩ ⟨Nat.le_of_ble_eq_true rfl, Nat.le_of_ble_eq_true rfl⟩ hl rfl rfl (Nat.le_of_ble_eq_true rfl) dX11_lock_3 ⟨Nat.le_of_ble_eq_true rfl, Nat.le_of_ble_eq_true rfl⟩ (fun z56428 F9 H locs hT hz56428 => ?_)
  obtain ⟨fz56428, hz56428⟩ := hz56428
  rw [fz56428] at hT
  obtain ⟨hz56428, iz56428⟩ := hz56428
  refine lv_if_ne (tgt := 15) hx hb dX11_lock_6 (by decide) (fun c56429 => ?_) (fun c56429 => ?_)
  · have w56430 := cv_ne (rfl : z56428.toInt = z56428.toInt) (by decide : (0 : Int32).toInt = 0) c56429
    have w56431 := (fun h => (iz56428 h).1) (by omega)
    have w56432 := (fun h => (iz56428 h).2) (by omega)
    refine lv_iload_n hx hb dX11_lock_15 rfl (lv_at hl 3 rfl) ?_
    refine lv_if_lt (tgt := 25) hx hb dX11_lock_16 (by decide) (fun c56433 => ?_) (fun c56433 => ?_)
    · have w56434 := cv_lt (rfl : p3.toInt = p3.toInt) (by decide : (0 : Int32).toInt = 0) c56433
      exact K25  _ _ _ _ (by omega) (by omega) hT hfr  (lv_sub hl [0, 1, 2, 3] rfl)
    · have w56435 := cv_nlt (rfl : p3.toInt = p3.toInt) (by decide : (0 : Int32).toInt = 0) c56433
      refine lv_iload_n hx hb dX11_lock_19 rfl (lv_at hl 3 rfl) ?_
      refine lv_bipush (v := 99) hx hb dX11_lock_20 (by decide) ?_
      refine lv_icmp_le (tgt := 31) hx hb dX11_lock_22 (by decide) (fun c56436 => ?_) (fun c56436 => ?_)
      · have w56437 := cv_le (rfl : p3.toInt = p3.toInt) (by decide : (99 : Int32).toInt = 99) c56436
        refine lv_aload_n hx hb dX11_lock_31 rfl (lv_at hl 0 rfl) ?_
        refine t_get (C := RX11) (T := TX11) (N := 16) X hT m0 g0 rfl rfl 5 (by decide) qw_23 inlX11 rfl dX11_lock_32 (fun v56438 hv56438 ov56438 => ?_)
        obtain ⟨b56439, rfl, mb56439, gb56439⟩ := okV_r ov56438
        have gb56439 : tag b56439 = 19 := tg_of gb56439
        refine lv_iload_n hx hb dX11_lock_35 rfl (lv_at hl 1 rfl) ?_
        refine lv_iload_n hx hb dX11_lock_36 rfl (lv_at hl 2 rfl) ?_
        refine lv_iconst (v := 3) hx hb dX11_lock_37 (by decide) ?_
        refine t_cVi (n := 3) (C := RX7) (T := TX7) (N := 7) (As := [.int p1, .int p2, .int 3]) (rest := []) X hT (kt19_X7_partOf l G tag L F hT.2.2.2 b56439 p1 p2 3 mb56439 gb56439) mb56439 gb56439 rfl rfl qw_831 qw_778 qw_779 qw_22 qw_780 ⟨rfl, by decide +kernel, by decide +kernel, by decide +kernel⟩ ⟨Nat.le_of_ble_eq_true rfl, Nat.le_of_ble_eq_true rfl⟩ hl rfl rfl (Nat.le_of_ble_eq_true rfl) dX11_lock_38 ⟨Nat.le_of_ble_eq_true rfl, Nat.le_of_ble_eq_true rfl⟩ (fun z56440 F9 H locs hT hz56440 => ?_)
        obtain ⟨fz56440, hz56440⟩ := hz56440
        rw [fz56440] at hT
        refine lv_iload_n hx hb dX11_lock_41 rfl (lv_at hl 3 rfl) ?_
        refine lv_icmp_ne (tgt := 51) hx hb dX11_lock_42 (by decide) (fun c56441 => ?_) (fun c56441 => ?_)
        · have w56442 := cv_ne (rfl : z56440.toInt = z56440.toInt) (rfl : p3.toInt = p3.toInt) c56441
          refine lv_aload_n hx hb dX11_lock_51 rfl (lv_at hl 0 rfl) ?_
          refine t_get (C := RX11) (T := TX11) (N := 16) X hT m0 g0 rfl rfl 12 (by decide) qw_45 inlX11 rfl dX11_lock_52 (fun v56443 hv56443 ov56443 => ?_)
          obtain ⟨b56444, rfl, mb56444, gb56444⟩ := okV_r ov56443
          have gb56444 : tag b56444 = 23 := tg_of gb56444
          refine lv_aload_n hx hb dX11_lock_55 rfl (lv_at hl 0 rfl) ?_
          refine t_get (C := RX11) (T := TX11) (N := 16) X hT m0 g0 rfl rfl 5 (by decide) qw_23 inlX11 rfl dX11_lock_56 (fun v56445 hv56445 ov56445 => ?_)
          obtain rfl : v56445 = .ref b56439 := hv56445.symm.trans hv56438
          refine t_cVv (n := 1) (C := RX2) (T := TX2) (N := 5) (As := [.ref b56439]) (rest := []) X hT (kt100_X2_keep l G tag L F hT.2.2.2 b56444 b56439 mb56444 gb56444 mb56439 gb56439) mb56444 gb56444 rfl rfl qw_1427 qw_1428 qw_1429 qw_44 qw_1430 ⟨rfl, by decide +kernel, by decide +kernel, by decide +kernel⟩ ⟨Nat.le_of_ble_eq_true rfl, Nat.le_of_ble_eq_true rfl⟩ hl rfl rfl (Nat.le_of_ble_eq_true rfl) dX11_lock_59 ⟨Nat.le_of_ble_eq_true rfl, Nat.le_of_ble_eq_true rfl⟩ (fun F H locs hT hz56446 => ?_)
          have yz56446 := hz56446
          have hv56438 := (yz56446 _ 5 (Or.inr (by decide)) (Or.inr (by decide)) (Or.inr (by decide)) (Or.inr (by decide))).trans hv56438
          have hv56443 := (yz56446 _ 12 (Or.inr (by decide)) (Or.inr (by decide)) (Or.inr (by decide)) (Or.inr (by decide))).trans hv56443
          have hfr : ∀ b j : Nat, (tag b ≠ 19 ∨ j ≠ 0) → (tag b ≠ 19 ∨ j ≠ 1) → (tag b ≠ 23 ∨ j ≠ 2) → (tag b ≠ 23 ∨ j ≠ 3) → (tag b ≠ 26 ∨ j ≠ 13) → fld F b j = fld Fo b j := fun b j n19_0 n19_1 n23_2 n23_3 n26_13 => (yz56446 b j n19_0 n19_1 n23_2 n23_3).trans (hfr b j n19_0 n19_1 n23_2 n23_3 n26_13)
          refine lv_aload_n hx hb dX11_lock_62 rfl (lv_at hl 0 rfl) ?_
          refine t_get (C := RX11) (T := TX11) (N := 16) X hT m0 g0 rfl rfl 5 (by decide) qw_23 inlX11 rfl dX11_lock_63 (fun v56447 hv56447 ov56447 => ?_)
          obtain rfl : v56447 = .ref b56439 := hv56447.symm.trans hv56438
          refine lv_iload_n hx hb dX11_lock_66 rfl (lv_at hl 1 rfl) ?_
          refine lv_iload_n hx hb dX11_lock_67 rfl (lv_at hl 2 rfl) ?_
          refine lv_iconst (v := 3) hx hb dX11_lock_68 (by decide) ?_
          refine lv_iload_n hx hb dX11_lock_69 rfl (lv_at hl 3 rfl) ?_
          refine t_cVv (n := 4) (C := RX7) (T := TX7) (N := 7) (As := [.int p1, .int p2, .int 3, .int p3]) (rest := []) X hT (kt17_X7_setPart l G tag L F hT.2.2.2 b56439 p1 p2 3 p3 mb56439 gb56439) mb56439 gb56439 rfl rfl qw_1459 qw_423 qw_424 qw_22 qw_425 ⟨rfl, by decide +kernel, by decide +kernel, by decide +kernel⟩ ⟨Nat.le_of_ble_eq_true rfl, Nat.le_of_ble_eq_true rfl⟩ hl rfl rfl (Nat.le_of_ble_eq_true rfl) dX11_lock_70 ⟨Nat.le_of_ble_eq_true rfl, Nat.le_of_ble_eq_true rfl⟩ (fun F H locs hT hz56448 => ?_)
          have yz56448 := hz56448
          have hv56438 := (yz56448 _ 5 ).trans hv56438
          have hv56443 := (yz56448 _ 12 ).trans hv56443
          have hfr : ∀ b j : Nat, (tag b ≠ 19 ∨ j ≠ 0) → (tag b ≠ 19 ∨ j ≠ 1) → (tag b ≠ 23 ∨ j ≠ 2) → (tag b ≠ 23 ∨ j ≠ 3) → (tag b ≠ 26 ∨ j ≠ 13) → fld F b j = fld Fo b j := fun b j n19_0 n19_1 n23_2 n23_3 n26_13 => (yz56448 b j ).trans (hfr b j n19_0 n19_1 n23_2 n23_3 n26_13)
          refine lv_aload_n hx hb dX11_lock_73 rfl (lv_at hl 0 rfl) ?_
          refine t_cVi (n := 0) (C := RX11) (T := TX11) (N := 16) (As := []) (rest := []) X hT (kt91_X11_yes l G tag L F hT.2.2.2 p0 m0 g0) m0 g0 rfl rfl qw_1460 qw_1461 qw_1462 qw_2 qw_1463 ⟨rfl, by decide +kernel, by decide +kernel, by decide +kernel⟩ ⟨Nat.le_of_ble_eq_true rfl, Nat.le_of_ble_eq_true rfl⟩ hl rfl rfl (Nat.le_of_ble_eq_true rfl) dX11_lock_74 ⟨Nat.le_of_ble_eq_true rfl, Nat.le_of_ble_eq_true rfl⟩ (fun z56449 F H locs hT hz56449 => ?_)
          obtain ⟨hz56449, yz56449⟩ := hz56449
          have hv56438 := (yz56449 _ 5 (Or.inr (by decide))).trans hv56438
          have hv56443 := (yz56449 _ 12 (Or.inr (by decide))).trans hv56443
          have hfr : ∀ b j : Nat, (tag b ≠ 19 ∨ j ≠ 0) → (tag b ≠ 19 ∨ j ≠ 1) → (tag b ≠ 23 ∨ j ≠ 2) → (tag b ≠ 23 ∨ j ≠ 3) → (tag b ≠ 26 ∨ j ≠ 13) → fld F b j = fld Fo b j := fun b j n19_0 n19_1 n23_2 n23_3 n26_13 => (yz56449 b j n26_13).trans (hfr b j n19_0 n19_1 n23_2 n23_3 n26_13)
          exact t_zret hQ X hT (nar_z (by omega)) (⟨(by omega), hfr⟩) (Nat.le_of_ble_eq_true rfl) (Nat.le_of_ble_eq_true rfl) dX11_lock_77
        · have w56450 := cv_eq (rfl : z56440.toInt = z56440.toInt) (rfl : p3.toInt = p3.toInt) c56441
          refine lv_aload_n hx hb dX11_lock_45 rfl (lv_at hl 0 rfl) ?_
          refine lv_iconst (v := 5) hx hb dX11_lock_46 (by decide) ?_
          refine t_cVi (n := 1) (C := RX11) (T := TX11) (N := 16) (As := [.int 5]) (rest := []) X hT (kt90_X11_no l G tag L F hT.2.2.2 p0 5 m0 g0) m0 g0 rfl rfl qw_1454 qw_1455 qw_1456 qw_2 qw_1457 ⟨rfl, by decide +kernel, by decide +kernel, by decide +kernel⟩ ⟨Nat.le_of_ble_eq_true rfl, Nat.le_of_ble_eq_true rfl⟩ hl rfl rfl (Nat.le_of_ble_eq_true rfl) dX11_lock_47 ⟨Nat.le_of_ble_eq_true rfl, Nat.le_of_ble_eq_true rfl⟩ (fun z56451 F H locs hT hz56451 => ?_)
          obtain ⟨hz56451, yz56451⟩ := hz56451
          have hv56438 := (yz56451 _ 5 (Or.inr (by decide))).trans hv56438
          have hfr : ∀ b j : Nat, (tag b ≠ 19 ∨ j ≠ 0) → (tag b ≠ 19 ∨ j ≠ 1) → (tag b ≠ 23 ∨ j ≠ 2) → (tag b ≠ 23 ∨ j ≠ 3) → (tag b ≠ 26 ∨ j ≠ 13) → fld F b j = fld Fo b j := fun b j n19_0 n19_1 n23_2 n23_3 n26_13 => (yz56451 b j n26_13).trans (hfr b j n19_0 n19_1 n23_2 n23_3 n26_13)
          exact t_zret hQ X hT (nar_z (by omega)) (⟨(by omega), hfr⟩) (Nat.le_of_ble_eq_true rfl) (Nat.le_of_ble_eq_true rfl) dX11_lock_50
      · have w56452 := cv_nle (rfl : p3.toInt = p3.toInt) (by decide : (99 : Int32).toInt = 99) c56436
        exact K25  _ _ _ _ (by omega) (by omega) hT hfr  (lv_sub hl [0, 1, 2, 3] rfl)
  · have w56453 := cv_eq (rfl : z56428.toInt = z56428.toInt) (by decide : (0 : Int32).toInt = 0) c56429
    refine lv_aload_n hx hb dX11_lock_9 rfl (lv_at hl 0 rfl) ?_
    refine lv_iconst (v := 1) hx hb dX11_lock_10 (by decide) ?_
    refine t_cVi (n := 1) (C := RX11) (T := TX11) (N := 16) (As := [.int 1]) (rest := []) X hT (kt90_X11_no l G tag L F hT.2.2.2 p0 1 m0 g0) m0 g0 rfl rfl qw_1454 qw_1455 qw_1456 qw_2 qw_1457 ⟨rfl, by decide +kernel, by decide +kernel, by decide +kernel⟩ ⟨Nat.le_of_ble_eq_true rfl, Nat.le_of_ble_eq_true rfl⟩ hl rfl rfl (Nat.le_of_ble_eq_true rfl) dX11_lock_11 ⟨Nat.le_of_ble_eq_true rfl, Nat.le_of_ble_eq_true rfl⟩ (fun z56454 F H locs hT hz56454 => ?_)
    obtain ⟨hz56454, yz56454⟩ := hz56454
    have hfr : ∀ b j : Nat, (tag b ≠ 19 ∨ j ≠ 0) → (tag b ≠ 19 ∨ j ≠ 1) → (tag b ≠ 23 ∨ j ≠ 2) → (tag b ≠ 23 ∨ j ≠ 3) → (tag b ≠ 26 ∨ j ≠ 13) → fld F b j = fld Fo b j := fun b j n19_0 n19_1 n23_2 n23_3 n26_13 => (yz56454 b j n26_13).trans (hfr b j n19_0 n19_1 n23_2 n23_3 n26_13)
    exact t_zret hQ X hT (nar_z (by omega)) (⟨(by omega), hfr⟩) (Nat.le_of_ble_eq_true rfl) (Nat.le_of_ble_eq_true rfl) dX11_lock_14
set_option maxHeartbeats 4000000 in
set_option maxRecDepth 100000 in
theorem kt158_X2_addMark (l : Launch) (G : KG) (tag : Nat → Nat) (L : List Nat) (Fo : Nat → va_E) (ho : okT G ttC tag L Fo) (p0 : Nat) (p1 : Nat) (m0 : p0 ∈ L) (g0 : tag p0 = 23) (m1 : p1 ∈ L) (g1 : tag p1 = 19) : TMi l yX2_addMark cX2_addMark 2 (some .int) { frames := 2, cells := 0, slots := 0, locals := 45 } G ttC tag L Fo [.ref p0, .ref p1] (fun r F1 => ((-1) ≤ r.toInt ∧ r.toInt ≤ 2) ∧ (∀ b j : Nat, (tag b ≠ 19 ∨ j ≠ 0) → (tag b ≠ 19 ∨ j ≠ 1) → (tag b ≠ 23 ∨ j ≠ 4) → fld F1 b j = fld Fo b j)) := by
  refine t_bodyi (y := yX2_addMark) (cd := cX2_addMark) (mL := 2) (rt := (some .int)) (rm := { frames := 2, cells := 0, slots := 0, locals := 45 }) (av := [.ref p0, .ref p1]) (by decide) (Nat.le_of_ble_eq_true rfl) ho ?_
  intro p e s m args below meth c ls A Q hQ X hT hl
  have hx := X.1.1
  have hb := X.1.2.1
  have hl : lv_has ls 2 [(0, .ref p0), (1, .ref p1)] := hl
  obtain ⟨F, hFo⟩ : ∃ F : Nat → va_E, F = Fo := ⟨_, rfl⟩
  rw [← hFo] at hT
  have hfr : ∀ b j : Nat, (tag b ≠ 19 ∨ j ≠ 0) → (tag b ≠ 19 ∨ j ≠ 1) → (tag b ≠ 23 ∨ j ≠ 4) → fld F b j = fld Fo b j := by
    rw [hFo]
    intros
    rfl
  refine lv_aload_n hx hb dX2_addMark_0 rfl (lv_at hl 0 rfl) ?_
  refine t_get (C := RX2) (T := TX2) (N := 5) X hT m0 g0 rfl rfl 4 (by decide) qw_462 inlX2 rfl dX2_addMark_1 (fun v56628 hv56628 ov56628 => ?_)
  obtain ⟨z56629, rfl, rz56629⟩ := okV_i ov56628
  refine lv_iconst (v := 3) hx hb dX2_addMark_4 (by decide) ?_
  refine lv_icmp_lt (tgt := 10) hx hb dX2_addMark_5 (by decide) (fun c56630 => ?_) (fun c56630 => ?_)
  · have w56631 := cv_lt (rfl : z56629.toInt = z56629.toInt) (by decide : (3 : Int32).toInt = 3) c56630
    refine lv_aload_n hx hb dX2_addMark_10 rfl (lv_at hl 0 rfl) ?_
    refine t_get (C := RX2) (T := TX2) (N := 5) X hT m0 g0 rfl rfl 1 (by decide) qw_104 inlX2 rfl dX2_addMark_11 (fun v56632 hv56632 ov56632 => ?_)
    obtain ⟨b56633, rfl, mb56633, gb56633⟩ := okV_r ov56632
    have gb56633 : tag b56633 = 17 := tg_of gb56633
    refine lv_aload_n hx hb dX2_addMark_14 rfl (lv_at hl 0 rfl) ?_
    refine t_get (C := RX2) (T := TX2) (N := 5) X hT m0 g0 rfl rfl 4 (by decide) qw_462 inlX2 rfl dX2_addMark_15 (fun v56634 hv56634 ov56634 => ?_)
    obtain rfl : v56634 = .int z56629 := hv56634.symm.trans hv56628
    refine t_ald X hT mb56633 gb56633 rfl (by omega) dX2_addMark_18 (fun b56635 mb56635 gb56635 => ?_)
    have gb56635 : tag b56635 = 19 := tg_of gb56635
    refine lv_aload_n hx hb dX2_addMark_19 rfl (lv_at hl 1 rfl) ?_
    refine t_cVv (n := 1) (C := RX7) (T := TX7) (N := 7) (As := [.ref p1]) (rest := []) X hT (kt77_X7_copyFrom l G tag L F hT.2.2.2 b56635 p1 mb56635 gb56635 m1 g1) mb56635 gb56635 rfl rfl qw_1432 qw_450 qw_451 qw_22 qw_452 ⟨rfl, by decide +kernel, by decide +kernel, by decide +kernel⟩ ⟨Nat.le_of_ble_eq_true rfl, Nat.le_of_ble_eq_true rfl⟩ hl rfl rfl (Nat.le_of_ble_eq_true rfl) dX2_addMark_20 ⟨Nat.le_of_ble_eq_true rfl, Nat.le_of_ble_eq_true rfl⟩ (fun F H locs hT hz56636 => ?_)
    have yz56636 := hz56636
    have hv56628 := (yz56636 _ 4 (Or.inr (by decide)) (Or.inr (by decide))).trans hv56628
    have hv56632 := (yz56636 _ 1 (Or.inr (by decide)) (Or.inl (by rw [g0]; decide))).trans hv56632
    have hfr : ∀ b j : Nat, (tag b ≠ 19 ∨ j ≠ 0) → (tag b ≠ 19 ∨ j ≠ 1) → (tag b ≠ 23 ∨ j ≠ 4) → fld F b j = fld Fo b j := fun b j n19_0 n19_1 n23_4 => (yz56636 b j n19_0 n19_1).trans (hfr b j n19_0 n19_1 n23_4)
    refine lv_aload_n hx hb dX2_addMark_23 rfl (lv_at hl 0 rfl) ?_
    refine lv_dup hx hb dX2_addMark_24 rfl ?_
    refine t_get (C := RX2) (T := TX2) (N := 5) X hT m0 g0 rfl rfl 4 (by decide) qw_462 inlX2 rfl dX2_addMark_25 (fun v56637 hv56637 ov56637 => ?_)
    obtain rfl : v56637 = .int z56629 := hv56637.symm.trans hv56628
    refine lv_iconst (v := 1) hx hb dX2_addMark_28 (by decide) ?_
    refine lv_iadd hx hb dX2_addMark_29 ?_
    refine lv_topi (fun z56638 ez56638 => ?_)
    have hz56638 : z56638.toInt = z56629.toInt + 1 := ar_add ez56638 (rfl : z56629.toInt = z56629.toInt) (by decide : (1 : Int32).toInt = 1) (by omega) (by omega)
    have rz56638 : 1 ≤ z56638.toInt ∧ z56638.toInt ≤ 3 := by omega
    refine t_put (C := RX2) (T := TX2) (N := 5) (v := .int z56638) X hT m0 g0 rfl tyX2 tyX2_ok nmX2 rfl 4 (by decide) qw_462 inlX2 rfl (by first | rfl | decide) (by first | rfl | decide) rfl (⟨_, rfl, (by omega), (by omega)⟩) dX2_addMark_30 (fun F H locs hT v56639 h1v56639 h2v56639 => ?_)
    have hv56632 := (h1v56639 _ _ (Or.inr (by decide))).trans hv56632
    have hfr : ∀ b j : Nat, (tag b ≠ 19 ∨ j ≠ 0) → (tag b ≠ 19 ∨ j ≠ 1) → (tag b ≠ 23 ∨ j ≠ 4) → fld F b j = fld Fo b j := fun b j n19_0 n19_1 n23_4 => (h1v56639 b j (fr_ne g0 n23_4)).trans (hfr b j n19_0 n19_1 n23_4)
    refine lv_aload_n hx hb dX2_addMark_33 rfl (lv_at hl 0 rfl) ?_
    refine t_get (C := RX2) (T := TX2) (N := 5) X hT m0 g0 rfl rfl 4 (by decide) qw_462 inlX2 rfl dX2_addMark_34 (fun v56640 hv56640 ov56640 => ?_)
    obtain rfl : v56640 = .int z56638 := hv56640.symm.trans v56639
    refine lv_iconst (v := 1) hx hb dX2_addMark_37 (by decide) ?_
    refine lv_isub hx hb dX2_addMark_38 ?_
    refine lv_topi (fun z56641 ez56641 => ?_)
    have hz56641 : z56641.toInt = z56638.toInt - 1 := ar_sub ez56641 (rfl : z56638.toInt = z56638.toInt) (by decide : (1 : Int32).toInt = 1) (by omega) (by omega)
    have rz56641 : 0 ≤ z56641.toInt ∧ z56641.toInt ≤ 2 := by omega
    exact t_iret hQ X hT (⟨(by omega), hfr⟩) (Nat.le_of_ble_eq_true rfl) (Nat.le_of_ble_eq_true rfl) dX2_addMark_39
  · have w56642 := cv_nlt (rfl : z56629.toInt = z56629.toInt) (by decide : (3 : Int32).toInt = 3) c56630
    refine lv_iconst (v := (-1)) hx hb dX2_addMark_8 (by decide) ?_
    exact t_iret hQ X hT (⟨(by decide), hfr⟩) (Nat.le_of_ble_eq_true rfl) (Nat.le_of_ble_eq_true rfl) dX2_addMark_9
set_option maxHeartbeats 4000000 in
set_option maxRecDepth 100000 in
theorem kt159_X11_mark (l : Launch) (G : KG) (tag : Nat → Nat) (L : List Nat) (Fo : Nat → va_E) (ho : okT G ttC tag L Fo) (p0 : Nat) (m0 : p0 ∈ L) (g0 : tag p0 = 26) : TMi l yX11_mark cX11_mark 2 (some .int) { frames := 3, cells := 0, slots := 0, locals := 66 } G ttC tag L Fo [.ref p0] (fun r F1 => ((-2147483648) ≤ r.toInt ∧ r.toInt ≤ 2147483647) ∧ (∀ b j : Nat, (tag b ≠ 19 ∨ j ≠ 0) → (tag b ≠ 19 ∨ j ≠ 1) → (tag b ≠ 23 ∨ j ≠ 4) → (tag b ≠ 26 ∨ j ≠ 13) → fld F1 b j = fld Fo b j)) := by
  refine t_bodyi (y := yX11_mark) (cd := cX11_mark) (mL := 2) (rt := (some .int)) (rm := { frames := 3, cells := 0, slots := 0, locals := 66 }) (av := [.ref p0]) (by decide) (Nat.le_of_ble_eq_true rfl) ho ?_
  intro p e s m args below meth c ls A Q hQ X hT hl
  have hx := X.1.1
  have hb := X.1.2.1
  have hl : lv_has ls 2 [(0, .ref p0)] := hl
  obtain ⟨F, hFo⟩ : ∃ F : Nat → va_E, F = Fo := ⟨_, rfl⟩
  rw [← hFo] at hT
  have hfr : ∀ b j : Nat, (tag b ≠ 19 ∨ j ≠ 0) → (tag b ≠ 19 ∨ j ≠ 1) → (tag b ≠ 23 ∨ j ≠ 4) → (tag b ≠ 26 ∨ j ≠ 13) → fld F b j = fld Fo b j := by
    rw [hFo]
    intros
    rfl
  refine lv_aload_n hx hb dX11_mark_0 rfl (lv_at hl 0 rfl) ?_
  refine t_get (C := RX11) (T := TX11) (N := 16) X hT m0 g0 rfl rfl 2 (by decide) qw_150 inlX11 rfl dX11_mark_1 (fun v56811 hv56811 ov56811 => ?_)
  obtain ⟨z56812, rfl, rz56812⟩ := okV_i ov56811
  refine lv_if_ne (tgt := 13) hx hb dX11_mark_4 (by decide) (fun c56813 => ?_) (fun c56813 => ?_)
  · have w56814 := cv_ne (rfl : z56812.toInt = z56812.toInt) (by decide : (0 : Int32).toInt = 0) c56813
    refine lv_aload_n hx hb dX11_mark_13 rfl (lv_at hl 0 rfl) ?_
    refine t_get (C := RX11) (T := TX11) (N := 16) X hT m0 g0 rfl rfl 12 (by decide) qw_45 inlX11 rfl dX11_mark_14 (fun v56815 hv56815 ov56815 => ?_)
    obtain ⟨b56816, rfl, mb56816, gb56816⟩ := okV_r ov56815
    have gb56816 : tag b56816 = 23 := tg_of gb56816
    refine lv_aload_n hx hb dX11_mark_17 rfl (lv_at hl 0 rfl) ?_
    refine t_get (C := RX11) (T := TX11) (N := 16) X hT m0 g0 rfl rfl 5 (by decide) qw_23 inlX11 rfl dX11_mark_18 (fun v56817 hv56817 ov56817 => ?_)
    obtain ⟨b56818, rfl, mb56818, gb56818⟩ := okV_r ov56817
    have gb56818 : tag b56818 = 19 := tg_of gb56818
    refine t_cVi (n := 1) (C := RX2) (T := TX2) (N := 5) (As := [.ref b56818]) (rest := []) X hT (kt158_X2_addMark l G tag L F hT.2.2.2 b56816 b56818 mb56816 gb56816 mb56818 gb56818) mb56816 gb56816 rfl rfl qw_1533 qw_1534 qw_1535 qw_44 qw_1536 ⟨rfl, by decide +kernel, by decide +kernel, by decide +kernel⟩ ⟨Nat.le_of_ble_eq_true rfl, Nat.le_of_ble_eq_true rfl⟩ hl rfl rfl (Nat.le_of_ble_eq_true rfl) dX11_mark_21 ⟨Nat.le_of_ble_eq_true rfl, Nat.le_of_ble_eq_true rfl⟩ (fun z56819 F H locs hT hz56819 => ?_)
    obtain ⟨hz56819, yz56819⟩ := hz56819
    have hv56811 := (yz56819 _ 2 (Or.inr (by decide)) (Or.inr (by decide)) (Or.inr (by decide))).trans hv56811
    have hv56815 := (yz56819 _ 12 (Or.inr (by decide)) (Or.inr (by decide)) (Or.inr (by decide))).trans hv56815
    have hv56817 := (yz56819 _ 5 (Or.inr (by decide)) (Or.inr (by decide)) (Or.inr (by decide))).trans hv56817
    have hfr : ∀ b j : Nat, (tag b ≠ 19 ∨ j ≠ 0) → (tag b ≠ 19 ∨ j ≠ 1) → (tag b ≠ 23 ∨ j ≠ 4) → (tag b ≠ 26 ∨ j ≠ 13) → fld F b j = fld Fo b j := fun b j n19_0 n19_1 n23_4 n26_13 => (yz56819 b j n19_0 n19_1 n23_4).trans (hfr b j n19_0 n19_1 n23_4 n26_13)
    refine lv_istore_n (lv' := [(1, .int z56819), (0, .ref p0)]) hx hb dX11_mark_24 rfl hl (by decide) rfl (fun ls hl => ?_)
    refine lv_iload_n hx hb dX11_mark_25 rfl (lv_at hl 0 rfl) ?_
    refine lv_iconst (v := (-1)) hx hb dX11_mark_26 (by decide) ?_
    refine lv_icmp_ne (tgt := 38) hx hb dX11_mark_27 (by decide) (fun c56820 => ?_) (fun c56820 => ?_)
    · have w56821 := cv_ne (rfl : z56819.toInt = z56819.toInt) (by decide : ((-1) : Int32).toInt = (-1)) c56820
      refine lv_aload_n hx hb dX11_mark_38 rfl (lv_at hl 1 rfl) ?_
      refine lv_iload_n hx hb dX11_mark_39 rfl (lv_at hl 0 rfl) ?_
      refine t_cVi (n := 1) (C := RX11) (T := TX11) (N := 16) (As := [.int z56819]) (rest := []) X hT (kt96_X11_answer l G tag L F hT.2.2.2 p0 z56819 m0 g0) m0 g0 rfl rfl qw_463 qw_464 qw_465 qw_2 qw_466 ⟨rfl, by decide +kernel, by decide +kernel, by decide +kernel⟩ ⟨Nat.le_of_ble_eq_true rfl, Nat.le_of_ble_eq_true rfl⟩ hl rfl rfl (Nat.le_of_ble_eq_true rfl) dX11_mark_40 ⟨Nat.le_of_ble_eq_true rfl, Nat.le_of_ble_eq_true rfl⟩ (fun z56822 F H locs hT hz56822 => ?_)
      obtain ⟨hz56822, yz56822⟩ := hz56822
      have hv56811 := (yz56822 _ 2 (Or.inr (by decide))).trans hv56811
      have hv56815 := (yz56822 _ 12 (Or.inr (by decide))).trans hv56815
      have hv56817 := (yz56822 _ 5 (Or.inr (by decide))).trans hv56817
      have hfr : ∀ b j : Nat, (tag b ≠ 19 ∨ j ≠ 0) → (tag b ≠ 19 ∨ j ≠ 1) → (tag b ≠ 23 ∨ j ≠ 4) → (tag b ≠ 26 ∨ j ≠ 13) → fld F b j = fld Fo b j := fun b j n19_0 n19_1 n23_4 n26_13 => (yz56822 b j n26_13).trans (hfr b j n19_0 n19_1 n23_4 n26_13)
      exact t_iret hQ X hT (⟨rg_all _, hfr⟩) (Nat.le_of_ble_eq_true rfl) (Nat.le_of_ble_eq_true rfl) dX11_mark_43
    · have w56823 := cv_eq (rfl : z56819.toInt = z56819.toInt) (by decide : ((-1) : Int32).toInt = (-1)) c56820
      refine lv_aload_n hx hb dX11_mark_30 rfl (lv_at hl 1 rfl) ?_
      refine lv_iconst (v := 3) hx hb dX11_mark_31 (by decide) ?_
      refine t_cVi (n := 1) (C := RX11) (T := TX11) (N := 16) (As := [.int 3]) (rest := []) X hT (kt97_X11_refuse l G tag L F hT.2.2.2 p0 3 m0 g0) m0 g0 rfl rfl qw_152 qw_153 qw_154 qw_2 qw_155 ⟨rfl, by decide +kernel, by decide +kernel, by decide +kernel⟩ ⟨Nat.le_of_ble_eq_true rfl, Nat.le_of_ble_eq_true rfl⟩ hl rfl rfl (Nat.le_of_ble_eq_true rfl) dX11_mark_32 ⟨Nat.le_of_ble_eq_true rfl, Nat.le_of_ble_eq_true rfl⟩ (fun z56824 F H locs hT hz56824 => ?_)
      obtain ⟨hz56824, yz56824⟩ := hz56824
      have hv56811 := (yz56824 _ 2 (Or.inr (by decide))).trans hv56811
      have hv56815 := (yz56824 _ 12 (Or.inr (by decide))).trans hv56815
      have hv56817 := (yz56824 _ 5 (Or.inr (by decide))).trans hv56817
      have hfr : ∀ b j : Nat, (tag b ≠ 19 ∨ j ≠ 0) → (tag b ≠ 19 ∨ j ≠ 1) → (tag b ≠ 23 ∨ j ≠ 4) → (tag b ≠ 26 ∨ j ≠ 13) → fld F b j = fld Fo b j := fun b j n19_0 n19_1 n23_4 n26_13 => (yz56824 b j n26_13).trans (hfr b j n19_0 n19_1 n23_4 n26_13)
      refine lv_goto (tgt := 43) hx hb dX11_mark_35 (by decide) ?_
      exact t_iret hQ X hT (⟨rg_all _, hfr⟩) (Nat.le_of_ble_eq_true rfl) (Nat.le_of_ble_eq_true rfl) dX11_mark_43
  · have w56825 := cv_eq (rfl : z56812.toInt = z56812.toInt) (by decide : (0 : Int32).toInt = 0) c56813
    refine lv_aload_n hx hb dX11_mark_7 rfl (lv_at hl 0 rfl) ?_
    refine lv_iconst (v := 1) hx hb dX11_mark_8 (by decide) ?_
    refine t_cVi (n := 1) (C := RX11) (T := TX11) (N := 16) (As := [.int 1]) (rest := []) X hT (kt97_X11_refuse l G tag L F hT.2.2.2 p0 1 m0 g0) m0 g0 rfl rfl qw_152 qw_153 qw_154 qw_2 qw_155 ⟨rfl, by decide +kernel, by decide +kernel, by decide +kernel⟩ ⟨Nat.le_of_ble_eq_true rfl, Nat.le_of_ble_eq_true rfl⟩ hl rfl rfl (Nat.le_of_ble_eq_true rfl) dX11_mark_9 ⟨Nat.le_of_ble_eq_true rfl, Nat.le_of_ble_eq_true rfl⟩ (fun z56826 F H locs hT hz56826 => ?_)
    obtain ⟨hz56826, yz56826⟩ := hz56826
    have hv56811 := (yz56826 _ 2 (Or.inr (by decide))).trans hv56811
    have hfr : ∀ b j : Nat, (tag b ≠ 19 ∨ j ≠ 0) → (tag b ≠ 19 ∨ j ≠ 1) → (tag b ≠ 23 ∨ j ≠ 4) → (tag b ≠ 26 ∨ j ≠ 13) → fld F b j = fld Fo b j := fun b j n19_0 n19_1 n23_4 n26_13 => (yz56826 b j n26_13).trans (hfr b j n19_0 n19_1 n23_4 n26_13)
    exact t_iret hQ X hT (⟨rg_all _, hfr⟩) (Nat.le_of_ble_eq_true rfl) (Nat.le_of_ble_eq_true rfl) dX11_mark_12
set_option maxHeartbeats 4000000 in
set_option maxRecDepth 100000 in
theorem kt160_X6_isMet (l : Launch) (G : KG) (tag : Nat → Nat) (L : List Nat) (F : Nat → va_E) (ho : okT G ttC tag L F) (p0 : Nat) (p1 : Nat) (p2 : Int32) (p3 : Int32) (m0 : p0 ∈ L) (g0 : tag p0 = 18) (m1 : p1 ∈ L) (g1 : tag p1 = 19) (h2 : 0 ≤ p2.toInt ∧ p2.toInt ≤ 3) (h3 : 0 ≤ p3.toInt ∧ p3.toInt ≤ 3) : TMi l yX6_isMet cX6_isMet 7 (some .boolean) { frames := 1, cells := 0, slots := 0, locals := 13 } G ttC tag L F [.ref p0, .ref p1, .int p2, .int p3] (fun r F1 => F1 = F ∧ (0 ≤ r.toInt ∧ r.toInt ≤ 1)) := by
  refine t_bodyi (y := yX6_isMet) (cd := cX6_isMet) (mL := 7) (rt := (some .boolean)) (rm := { frames := 1, cells := 0, slots := 0, locals := 13 }) (av := [.ref p0, .ref p1, .int p2, .int p3]) (by decide) (Nat.le_of_ble_eq_true rfl) ho ?_
  intro p e s m args below meth c ls A Q hQ X hT hl
  have hx := X.1.1
  have hb := X.1.2.1
  have hl : lv_has ls 7 [(0, .ref p0), (1, .ref p1), (2, .int p2), (3, .int p3)] := hl
  refine lv_aload_n hx hb dX6_isMet_0 rfl (lv_at hl 1 rfl) ?_
  refine t_get (C := RX7) (T := TX7) (N := 7) X hT m1 g1 rfl rfl 2 (by decide) qw_383 inlX7 rfl dX6_isMet_1 (fun v57178 hv57178 ov57178 => ?_)
  obtain ⟨b57179, rfl, mb57179, gb57179⟩ := okV_r ov57178
  have gb57179 : tag b57179 = 8 := tg_of gb57179
  refine lv_iload_n hx hb dX6_isMet_4 rfl (lv_at hl 2 rfl) ?_
  refine t_ild X hT mb57179 gb57179 rfl (by omega) dX6_isMet_5 (fun z57180 vz57180 rz57180 => ?_)
  have rz57180 : 0 ≤ z57180.toInt ∧ z57180.toInt ≤ 6 := rz57180
  refine lv_aload_n hx hb dX6_isMet_6 rfl (lv_at hl 1 rfl) ?_
  refine t_get (C := RX7) (T := TX7) (N := 7) X hT m1 g1 rfl rfl 2 (by decide) qw_383 inlX7 rfl dX6_isMet_7 (fun v57181 hv57181 ov57181 => ?_)
  obtain rfl : v57181 = .ref b57179 := hv57181.symm.trans hv57178
  refine lv_iload_n hx hb dX6_isMet_10 rfl (lv_at hl 3 rfl) ?_
  refine t_ild X hT mb57179 gb57179 rfl (by omega) dX6_isMet_11 (fun z57182 vz57182 rz57182 => ?_)
  have rz57182 : 0 ≤ z57182.toInt ∧ z57182.toInt ≤ 6 := rz57182
  refine lv_iadd hx hb dX6_isMet_12 ?_
  refine lv_topi (fun z57183 ez57183 => ?_)
  have hz57183 : z57183.toInt = z57180.toInt + z57182.toInt := ar_add ez57183 (rfl : z57180.toInt = z57180.toInt) (rfl : z57182.toInt = z57182.toInt) (by omega) (by omega)
  have rz57183 : 0 ≤ z57183.toInt ∧ z57183.toInt ≤ 12 := by omega
  refine lv_istore (lv' := [(4, .int z57183), (0, .ref p0), (1, .ref p1), (2, .int p2), (3, .int p3)]) hx hb dX6_isMet_13 hl (by decide) rfl (fun ls hl => ?_)
  refine lv_aload_n hx hb dX6_isMet_15 rfl (lv_at hl 1 rfl) ?_
  refine t_get (C := RX1) (T := TX1) (N := 20) X hT m0 g0 rfl rfl 11 (by decide) qw_405 inlX1 rfl dX6_isMet_16 (fun v57184 hv57184 ov57184 => ?_)
  obtain ⟨b57185, rfl, mb57185, gb57185⟩ := okV_r ov57184
  have gb57185 : tag b57185 = 4 := tg_of gb57185
  refine lv_iload_n hx hb dX6_isMet_19 rfl (lv_at hl 3 rfl) ?_
  refine t_ild X hT mb57185 gb57185 rfl (by omega) dX6_isMet_20 (fun z57186 vz57186 rz57186 => ?_)
  have rz57186 : 0 ≤ z57186.toInt ∧ z57186.toInt ≤ 11 := rz57186
  refine lv_aload_n hx hb dX6_isMet_21 rfl (lv_at hl 1 rfl) ?_
  refine t_get (C := RX1) (T := TX1) (N := 20) X hT m0 g0 rfl rfl 11 (by decide) qw_405 inlX1 rfl dX6_isMet_22 (fun v57187 hv57187 ov57187 => ?_)
  obtain rfl : v57187 = .ref b57185 := hv57187.symm.trans hv57184
  refine lv_iload_n hx hb dX6_isMet_25 rfl (lv_at hl 4 rfl) ?_
  refine t_ild X hT mb57185 gb57185 rfl (by omega) dX6_isMet_26 (fun z57188 vz57188 rz57188 => ?_)
  have rz57188 : 0 ≤ z57188.toInt ∧ z57188.toInt ≤ 11 := rz57188
  refine lv_isub hx hb dX6_isMet_27 ?_
  refine lv_topi (fun z57189 ez57189 => ?_)
  have hz57189 : z57189.toInt = z57186.toInt - z57188.toInt := ar_sub ez57189 (rfl : z57186.toInt = z57186.toInt) (rfl : z57188.toInt = z57188.toInt) (by omega) (by omega)
  have rz57189 : (-11) ≤ z57189.toInt ∧ z57189.toInt ≤ 11 := by omega
  refine t_mabs X hl qw_1200 qw_1201 qw_850 qw_1202 (Nat.le_of_ble_eq_true rfl) (Nat.le_of_ble_eq_true rfl) (Nat.le_of_ble_eq_true rfl) (Nat.le_of_ble_eq_true rfl) dX6_isMet_28 (fun z57190 ez57190 => ?_)
  have hz57190 := mabs_e ez57190 (rfl : z57189.toInt = z57189.toInt) (by omega)
  refine lv_istore (lv' := [(5, .int z57190), (4, .int z57183), (0, .ref p0), (1, .ref p1), (2, .int p2), (3, .int p3)]) hx hb dX6_isMet_31 hl (by decide) rfl (fun ls hl => ?_)
  refine lv_aload_n hx hb dX6_isMet_33 rfl (lv_at hl 2 rfl) ?_
  refine t_get (C := RX1) (T := TX1) (N := 20) X hT m0 g0 rfl rfl 12 (by decide) qw_406 inlX1 rfl dX6_isMet_34 (fun v57191 hv57191 ov57191 => ?_)
  obtain ⟨b57192, rfl, mb57192, gb57192⟩ := okV_r ov57191
  have gb57192 : tag b57192 = 4 := tg_of gb57192
  refine lv_iload_n hx hb dX6_isMet_37 rfl (lv_at hl 4 rfl) ?_
  refine t_ild X hT mb57192 gb57192 rfl (by omega) dX6_isMet_38 (fun z57193 vz57193 rz57193 => ?_)
  have rz57193 : 0 ≤ z57193.toInt ∧ z57193.toInt ≤ 11 := rz57193
  refine lv_aload_n hx hb dX6_isMet_39 rfl (lv_at hl 2 rfl) ?_
  refine t_get (C := RX1) (T := TX1) (N := 20) X hT m0 g0 rfl rfl 12 (by decide) qw_406 inlX1 rfl dX6_isMet_40 (fun v57194 hv57194 ov57194 => ?_)
  obtain rfl : v57194 = .ref b57192 := hv57194.symm.trans hv57191
  refine lv_iload_n hx hb dX6_isMet_43 rfl (lv_at hl 5 rfl) ?_
  refine t_ild X hT mb57192 gb57192 rfl (by omega) dX6_isMet_44 (fun z57195 vz57195 rz57195 => ?_)
  have rz57195 : 0 ≤ z57195.toInt ∧ z57195.toInt ≤ 11 := rz57195
  refine lv_isub hx hb dX6_isMet_45 ?_
  refine lv_topi (fun z57196 ez57196 => ?_)
  have hz57196 : z57196.toInt = z57193.toInt - z57195.toInt := ar_sub ez57196 (rfl : z57193.toInt = z57193.toInt) (rfl : z57195.toInt = z57195.toInt) (by omega) (by omega)
  have rz57196 : (-11) ≤ z57196.toInt ∧ z57196.toInt ≤ 11 := by omega
  refine t_mabs X hl qw_1200 qw_1201 qw_850 qw_1202 (Nat.le_of_ble_eq_true rfl) (Nat.le_of_ble_eq_true rfl) (Nat.le_of_ble_eq_true rfl) (Nat.le_of_ble_eq_true rfl) dX6_isMet_46 (fun z57197 ez57197 => ?_)
  have hz57197 := mabs_e ez57197 (rfl : z57196.toInt = z57196.toInt) (by omega)
  refine lv_istore (lv' := [(6, .int z57197), (5, .int z57190), (4, .int z57183), (0, .ref p0), (1, .ref p1), (2, .int p2), (3, .int p3)]) hx hb dX6_isMet_49 hl (by decide) rfl (fun ls hl => ?_)
  refine lv_iload hx hb dX6_isMet_51 (lv_at hl 1 rfl) ?_
  refine lv_iload hx hb dX6_isMet_53 (lv_at hl 0 rfl) ?_
  refine t_mmax X hl qw_1203 qw_849 qw_850 qw_851 (Nat.le_of_ble_eq_true rfl) (Nat.le_of_ble_eq_true rfl) (Nat.le_of_ble_eq_true rfl) (Nat.le_of_ble_eq_true rfl) dX6_isMet_55 (fun z57198 ez57198 => ?_)
  have hz57198 := mmax_e ez57198 (rfl : z57190.toInt = z57190.toInt) (rfl : z57197.toInt = z57197.toInt)
  refine lv_iload hx hb dX6_isMet_58 (lv_at hl 2 rfl) ?_
  refine lv_iconst (v := 1) hx hb dX6_isMet_60 (by decide) ?_
  refine lv_iadd hx hb dX6_isMet_61 ?_
  refine lv_topi (fun z57199 ez57199 => ?_)
  have hz57199 : z57199.toInt = z57183.toInt + 1 := ar_add ez57199 (rfl : z57183.toInt = z57183.toInt) (by decide : (1 : Int32).toInt = 1) (by omega) (by omega)
  have rz57199 : 1 ≤ z57199.toInt ∧ z57199.toInt ≤ 13 := by omega
  refine lv_icmp_gt (tgt := 81) hx hb dX6_isMet_62 (by decide) (fun c57200 => ?_) (fun c57200 => ?_)
  · have w57201 := cv_lt (rfl : z57199.toInt = z57199.toInt) (rfl : z57198.toInt = z57198.toInt) c57200
    refine lv_iconst (v := 0) hx hb dX6_isMet_81 (by decide) ?_
    exact t_zret hQ X hT (by decide) (⟨rfl, (by decide)⟩) (Nat.le_of_ble_eq_true rfl) (Nat.le_of_ble_eq_true rfl) dX6_isMet_82
  · have w57202 := cv_nlt (rfl : z57199.toInt = z57199.toInt) (rfl : z57198.toInt = z57198.toInt) c57200
    refine lv_iload hx hb dX6_isMet_65 (lv_at hl 1 rfl) ?_
    refine lv_iload hx hb dX6_isMet_67 (lv_at hl 0 rfl) ?_
    refine t_mmin X hl qw_1204 qw_1018 qw_850 qw_1019 (Nat.le_of_ble_eq_true rfl) (Nat.le_of_ble_eq_true rfl) (Nat.le_of_ble_eq_true rfl) (Nat.le_of_ble_eq_true rfl) dX6_isMet_69 (fun z57203 ez57203 => ?_)
    have hz57203 := mmin_e ez57203 (rfl : z57190.toInt = z57190.toInt) (rfl : z57197.toInt = z57197.toInt)
    refine lv_iload hx hb dX6_isMet_72 (lv_at hl 2 rfl) ?_
    refine lv_icmp_gt (tgt := 81) hx hb dX6_isMet_74 (by decide) (fun c57204 => ?_) (fun c57204 => ?_)
    · have w57205 := cv_lt (rfl : z57183.toInt = z57183.toInt) (rfl : z57203.toInt = z57203.toInt) c57204
      refine lv_iconst (v := 0) hx hb dX6_isMet_81 (by decide) ?_
      exact t_zret hQ X hT (by decide) (⟨rfl, (by decide)⟩) (Nat.le_of_ble_eq_true rfl) (Nat.le_of_ble_eq_true rfl) dX6_isMet_82
    · have w57206 := cv_nlt (rfl : z57183.toInt = z57183.toInt) (rfl : z57203.toInt = z57203.toInt) c57204
      refine lv_iconst (v := 1) hx hb dX6_isMet_77 (by decide) ?_
      refine lv_goto (tgt := 82) hx hb dX6_isMet_78 (by decide) ?_
      exact t_zret hQ X hT (by decide) (⟨rfl, (by decide)⟩) (Nat.le_of_ble_eq_true rfl) (Nat.le_of_ble_eq_true rfl) dX6_isMet_82
set_option maxHeartbeats 4000000 in
set_option maxRecDepth 100000 in
theorem kt161_X11_meet (l : Launch) (G : KG) (tag : Nat → Nat) (L : List Nat) (Fo : Nat → va_E) (ho : okT G ttC tag L Fo) (p0 : Nat) (p1 : Int32) (p2 : Int32) (p3 : Int32) (m0 : p0 ∈ L) (g0 : tag p0 = 26) : TMi l yX11_meet cX11_meet 5 (some .int) { frames := 6, cells := 0, slots := 0, locals := 157 } G ttC tag L Fo [.ref p0, .int p1, .int p2, .int p3] (fun r F1 => ((-2147483648) ≤ r.toInt ∧ r.toInt ≤ 2147483647) ∧ (∀ b j : Nat, (tag b ≠ 19 ∨ j ≠ 0) → (tag b ≠ 19 ∨ j ≠ 1) → (tag b ≠ 26 ∨ j ≠ 13) → fld F1 b j = fld Fo b j)) := by
  refine t_bodyi (y := yX11_meet) (cd := cX11_meet) (mL := 5) (rt := (some .int)) (rm := { frames := 6, cells := 0, slots := 0, locals := 157 }) (av := [.ref p0, .int p1, .int p2, .int p3]) (by decide) (Nat.le_of_ble_eq_true rfl) ho ?_
  intro p e s m args below meth c ls A Q hQ X hT hl
  have hx := X.1.1
  have hb := X.1.2.1
  have hl : lv_has ls 5 [(0, .ref p0), (1, .int p1), (2, .int p2), (3, .int p3)] := hl
  have rp1 := rg_all p1
  have rp2 := rg_all p2
  have rp3 := rg_all p3
  obtain ⟨F, hFo⟩ : ∃ F : Nat → va_E, F = Fo := ⟨_, rfl⟩
  rw [← hFo] at hT
  have hfr : ∀ b j : Nat, (tag b ≠ 19 ∨ j ≠ 0) → (tag b ≠ 19 ∨ j ≠ 1) → (tag b ≠ 26 ∨ j ≠ 13) → fld F b j = fld Fo b j := by
    rw [hFo]
    intros
    rfl
  have K21 : ∀  (F : Nat → va_E) (H : Heap) (locs : List Loc) (ls : Array Slot), TH G ttC A s tag L F H locs → (∀ b j : Nat, (tag b ≠ 19 ∨ j ≠ 0) → (tag b ≠ 19 ∨ j ≠ 1) → (tag b ≠ 26 ∨ j ≠ 13) → fld F b j = fld Fo b j) → lv_has ls 5 [(0, .ref p0), (1, .int p1), (2, .int p2), (3, .int p3)] → W p l e { frames := 6, cells := 0, slots := 0, locals := 157 } s m args below meth c H locs 0 0 Q (F0 m 21 ls []) := by
    intro F H locs ls hT hfr hl
    refine lv_aload_n hx hb dX11_meet_21 rfl (lv_at hl 0 rfl) ?_
    refine lv_iconst (v := 1) hx hb dX11_meet_22 (by decide) ?_
    refine t_cVi (n := 1) (C := RX11) (T := TX11) (N := 16) (As := [.int 1]) (rest := []) X hT (kt97_X11_refuse l G tag L F hT.2.2.2 p0 1 m0 g0) m0 g0 rfl rfl qw_152 qw_153 qw_154 qw_2 qw_155 ⟨rfl, by decide +kernel, by decide +kernel, by decide +kernel⟩ ⟨Nat.le_of_ble_eq_true rfl, Nat.le_of_ble_eq_true rfl⟩ hl rfl rfl (Nat.le_of_ble_eq_true rfl) dX11_meet_23 ⟨Nat.le_of_ble_eq_true rfl, Nat.le_of_ble_eq_true rfl⟩ (fun z58010 F H locs hT hz58010 => ?_)
    obtain ⟨hz58010, yz58010⟩ := hz58010
    have hfr : ∀ b j : Nat, (tag b ≠ 19 ∨ j ≠ 0) → (tag b ≠ 19 ∨ j ≠ 1) → (tag b ≠ 26 ∨ j ≠ 13) → fld F b j = fld Fo b j := fun b j n19_0 n19_1 n26_13 => (yz58010 b j n26_13).trans (hfr b j n19_0 n19_1 n26_13)
    exact t_iret hQ X hT (⟨rg_all _, hfr⟩) (Nat.le_of_ble_eq_true rfl) (Nat.le_of_ble_eq_true rfl) dX11_meet_26
  have K37 : ∀  (F : Nat → va_E) (H : Heap) (locs : List Loc) (ls : Array Slot), (0 ≤ p1.toInt ∧ p1.toInt ≤ 3) → (0 ≤ p2.toInt ∧ p2.toInt ≤ 3) → TH G ttC A s tag L F H locs → (∀ b j : Nat, (tag b ≠ 19 ∨ j ≠ 0) → (tag b ≠ 19 ∨ j ≠ 1) → (tag b ≠ 26 ∨ j ≠ 13) → fld F b j = fld Fo b j) → lv_has ls 5 [(0, .ref p0), (1, .int p1), (2, .int p2), (3, .int p3)] → W p l e { frames := 6, cells := 0, slots := 0, locals := 157 } s m args below meth c H locs 0 0 Q (F0 m 37 ls []) := by
    intro F H locs ls r9s58011 r9s58012 hT hfr hl
    refine lv_aload_n hx hb dX11_meet_37 rfl (lv_at hl 0 rfl) ?_
    refine lv_iconst (v := 2) hx hb dX11_meet_38 (by decide) ?_
    refine t_cVi (n := 1) (C := RX11) (T := TX11) (N := 16) (As := [.int 2]) (rest := []) X hT (kt97_X11_refuse l G tag L F hT.2.2.2 p0 2 m0 g0) m0 g0 rfl rfl qw_152 qw_153 qw_154 qw_2 qw_155 ⟨rfl, by decide +kernel, by decide +kernel, by decide +kernel⟩ ⟨Nat.le_of_ble_eq_true rfl, Nat.le_of_ble_eq_true rfl⟩ hl rfl rfl (Nat.le_of_ble_eq_true rfl) dX11_meet_39 ⟨Nat.le_of_ble_eq_true rfl, Nat.le_of_ble_eq_true rfl⟩ (fun z58013 F H locs hT hz58013 => ?_)
    obtain ⟨hz58013, yz58013⟩ := hz58013
    have hfr : ∀ b j : Nat, (tag b ≠ 19 ∨ j ≠ 0) → (tag b ≠ 19 ∨ j ≠ 1) → (tag b ≠ 26 ∨ j ≠ 13) → fld F b j = fld Fo b j := fun b j n19_0 n19_1 n26_13 => (yz58013 b j n26_13).trans (hfr b j n19_0 n19_1 n26_13)
    exact t_iret hQ X hT (⟨rg_all _, hfr⟩) (Nat.le_of_ble_eq_true rfl) (Nat.le_of_ble_eq_true rfl) dX11_meet_42
  have K57 : ∀ (n : Nat) (z58017 : Int32) (F : Nat → va_E) (H : Heap) (locs : List Loc) (ls : Array Slot), (61 - z58017.toInt < (n : Int)) → (0 ≤ z58017.toInt ∧ z58017.toInt ≤ 61) → (0 ≤ p1.toInt ∧ p1.toInt ≤ 3) → (0 ≤ p2.toInt ∧ p2.toInt ≤ 3) → (0 ≤ p3.toInt ∧ p3.toInt ≤ 60) → TH G ttC A s tag L F H locs → (∀ b j : Nat, (tag b ≠ 19 ∨ j ≠ 0) → (tag b ≠ 19 ∨ j ≠ 1) → (tag b ≠ 26 ∨ j ≠ 13) → fld F b j = fld Fo b j) → lv_has ls 5 [(0, .ref p0), (1, .int p1), (2, .int p2), (3, .int p3), (4, .int z58017)] → W p l e { frames := 6, cells := 0, slots := 0, locals := 157 } s m args below meth c H locs 0 0 Q (F0 m 57 ls []) := by
    intro n
    induction n with
    | zero =>
      intro z58017 F H locs ls hn rz58017 r9s58014 r9s58015 r9s58016 hT hfr hl
      exfalso
      omega
    | succ n ih57 =>
      intro z58017 F H locs ls hn rz58017 r9s58014 r9s58015 r9s58016 hT hfr hl
      refine lv_iload hx hb dX11_meet_57 (lv_at hl 4 rfl) ?_
      refine lv_iload_n hx hb dX11_meet_59 rfl (lv_at hl 3 rfl) ?_
      refine lv_icmp_gt (tgt := 106) hx hb dX11_meet_60 (by decide) (fun c58018 => ?_) (fun c58018 => ?_)
      · have w58019 := cv_lt (rfl : p3.toInt = p3.toInt) (rfl : z58017.toInt = z58017.toInt) c58018
        refine lv_aload_n hx hb dX11_meet_106 rfl (lv_at hl 0 rfl) ?_
        refine lv_bipush (v := (-2)) hx hb dX11_meet_107 (by decide) ?_
        refine t_cVi (n := 1) (C := RX11) (T := TX11) (N := 16) (As := [.int (-2)]) (rest := []) X hT (kt96_X11_answer l G tag L F hT.2.2.2 p0 (-2) m0 g0) m0 g0 rfl rfl qw_463 qw_464 qw_465 qw_2 qw_466 ⟨rfl, by decide +kernel, by decide +kernel, by decide +kernel⟩ ⟨Nat.le_of_ble_eq_true rfl, Nat.le_of_ble_eq_true rfl⟩ hl rfl rfl (Nat.le_of_ble_eq_true rfl) dX11_meet_109 ⟨Nat.le_of_ble_eq_true rfl, Nat.le_of_ble_eq_true rfl⟩ (fun z58020 F H locs hT hz58020 => ?_)
        obtain ⟨hz58020, yz58020⟩ := hz58020
        have hfr : ∀ b j : Nat, (tag b ≠ 19 ∨ j ≠ 0) → (tag b ≠ 19 ∨ j ≠ 1) → (tag b ≠ 26 ∨ j ≠ 13) → fld F b j = fld Fo b j := fun b j n19_0 n19_1 n26_13 => (yz58020 b j n26_13).trans (hfr b j n19_0 n19_1 n26_13)
        exact t_iret hQ X hT (⟨rg_all _, hfr⟩) (Nat.le_of_ble_eq_true rfl) (Nat.le_of_ble_eq_true rfl) dX11_meet_112
      · have w58021 := cv_nlt (rfl : p3.toInt = p3.toInt) (rfl : z58017.toInt = z58017.toInt) c58018
        refine lv_aload_n hx hb dX11_meet_63 rfl (lv_at hl 0 rfl) ?_
        refine t_get (C := RX11) (T := TX11) (N := 16) X hT m0 g0 rfl rfl 3 (by decide) qw_18 inlX11 rfl dX11_meet_64 (fun v58022 hv58022 ov58022 => ?_)
        obtain ⟨b58023, rfl, mb58023, gb58023⟩ := okV_r ov58022
        have gb58023 : tag b58023 = 18 := tg_of gb58023
        refine lv_aload_n hx hb dX11_meet_67 rfl (lv_at hl 0 rfl) ?_
        refine t_get (C := RX11) (T := TX11) (N := 16) X hT m0 g0 rfl rfl 7 (by decide) qw_25 inlX11 rfl dX11_meet_68 (fun v58024 hv58024 ov58024 => ?_)
        obtain ⟨b58025, rfl, mb58025, gb58025⟩ := okV_r ov58024
        have gb58025 : tag b58025 = 19 := tg_of gb58025
        refine lv_iload_n hx hb dX11_meet_71 rfl (lv_at hl 1 rfl) ?_
        refine lv_iload_n hx hb dX11_meet_72 rfl (lv_at hl 2 rfl) ?_
        refine t_cSi (n := 4) (As := [.ref b58023, .ref b58025, .int p1, .int p2]) (rest := []) X hT (kt160_X6_isMet l G tag L F hT.2.2.2 b58023 b58025 p1 p2 mb58023 gb58023 mb58025 gb58025 (by omega) (by omega)) qw_1197 qw_1198 qw_380 qw_1199 ⟨by decide +kernel, by decide +kernel, by decide +kernel⟩ ⟨Nat.le_of_ble_eq_true rfl, Nat.le_of_ble_eq_true rfl⟩ hl rfl rfl (Nat.le_of_ble_eq_true rfl) dX11_meet_73 ⟨Nat.le_of_ble_eq_true rfl, Nat.le_of_ble_eq_true rfl⟩ (fun z58026 F9 H locs hT hz58026 => ?_)
        obtain ⟨fz58026, hz58026⟩ := hz58026
        rw [fz58026] at hT
        refine lv_if_eq (tgt := 86) hx hb dX11_meet_76 (by decide) (fun c58027 => ?_) (fun c58027 => ?_)
        · have w58028 := cv_eq (rfl : z58026.toInt = z58026.toInt) (by decide : (0 : Int32).toInt = 0) c58027
          refine lv_aload_n hx hb dX11_meet_86 rfl (lv_at hl 0 rfl) ?_
          refine t_get (C := RX11) (T := TX11) (N := 16) X hT m0 g0 rfl rfl 3 (by decide) qw_18 inlX11 rfl dX11_meet_87 (fun v58029 hv58029 ov58029 => ?_)
          obtain rfl : v58029 = .ref b58023 := hv58029.symm.trans hv58022
          refine lv_aload_n hx hb dX11_meet_90 rfl (lv_at hl 0 rfl) ?_
          refine t_get (C := RX11) (T := TX11) (N := 16) X hT m0 g0 rfl rfl 7 (by decide) qw_25 inlX11 rfl dX11_meet_91 (fun v58030 hv58030 ov58030 => ?_)
          obtain rfl : v58030 = .ref b58025 := hv58030.symm.trans hv58024
          refine t_gets X hT X.2.2.2.1.2.2.2.2 qw_1096 dX11_meet_94 ?_
          refine t_cSv (n := 3) (As := [.ref b58023, .ref b58025, .ref (G.2 13)]) (rest := []) X hT (kt105_X10_pass l G tag L F hT.2.2.2 b58023 b58025 mb58023 gb58023 mb58025 gb58025) qw_1097 qw_1098 qw_32 qw_1099 ⟨by decide +kernel, by decide +kernel, by decide +kernel⟩ ⟨Nat.le_of_ble_eq_true rfl, Nat.le_of_ble_eq_true rfl⟩ hl rfl rfl (Nat.le_of_ble_eq_true rfl) dX11_meet_97 ⟨Nat.le_of_ble_eq_true rfl, Nat.le_of_ble_eq_true rfl⟩ (fun F H locs hT hz58031 => ?_)
          have yz58031 := hz58031
          have hv58022 := (yz58031 _ 3 (Or.inr (by decide)) (Or.inr (by decide))).trans hv58022
          have hv58024 := (yz58031 _ 7 (Or.inr (by decide)) (Or.inr (by decide))).trans hv58024
          have hfr : ∀ b j : Nat, (tag b ≠ 19 ∨ j ≠ 0) → (tag b ≠ 19 ∨ j ≠ 1) → (tag b ≠ 26 ∨ j ≠ 13) → fld F b j = fld Fo b j := fun b j n19_0 n19_1 n26_13 => (yz58031 b j n19_0 n19_1).trans (hfr b j n19_0 n19_1 n26_13)
          obtain ⟨z58032, ez58032⟩ : ∃ y : Int32, y = z58017 + 1 := ⟨_, rfl⟩
          have hz58032 : z58032.toInt = z58017.toInt + 1 := ar_add ez58032 rfl (by decide : (1 : Int32).toInt = 1) (by omega) (by omega)
          refine lv_iinc (v := z58032) (lv' := [(4, .int z58032), (0, .ref p0), (1, .int p1), (2, .int p2), (3, .int p3)]) hx hb dX11_meet_100 hl (k := 4) rfl (by rw [ez58032]; rfl) (by decide) rfl (fun ls hl => ?_)
          refine lv_goto (tgt := 57) hx hb dX11_meet_103 (by decide) ?_
          exact ih57 z58032 _ _ _ _ (by omega) (by omega) (by omega) (by omega) (by omega) hT hfr  (lv_sub hl [1, 2, 3, 4, 0] rfl)
        · have w58033 := cv_ne (rfl : z58026.toInt = z58026.toInt) (by decide : (0 : Int32).toInt = 0) c58027
          refine lv_aload_n hx hb dX11_meet_79 rfl (lv_at hl 0 rfl) ?_
          refine lv_iload hx hb dX11_meet_80 (lv_at hl 4 rfl) ?_
          refine t_cVi (n := 1) (C := RX11) (T := TX11) (N := 16) (As := [.int z58017]) (rest := []) X hT (kt96_X11_answer l G tag L F hT.2.2.2 p0 z58017 m0 g0) m0 g0 rfl rfl qw_463 qw_464 qw_465 qw_2 qw_466 ⟨rfl, by decide +kernel, by decide +kernel, by decide +kernel⟩ ⟨Nat.le_of_ble_eq_true rfl, Nat.le_of_ble_eq_true rfl⟩ hl rfl rfl (Nat.le_of_ble_eq_true rfl) dX11_meet_82 ⟨Nat.le_of_ble_eq_true rfl, Nat.le_of_ble_eq_true rfl⟩ (fun z58034 F H locs hT hz58034 => ?_)
          obtain ⟨hz58034, yz58034⟩ := hz58034
          have hv58022 := (yz58034 _ 3 (Or.inr (by decide))).trans hv58022
          have hv58024 := (yz58034 _ 7 (Or.inr (by decide))).trans hv58024
          have hfr : ∀ b j : Nat, (tag b ≠ 19 ∨ j ≠ 0) → (tag b ≠ 19 ∨ j ≠ 1) → (tag b ≠ 26 ∨ j ≠ 13) → fld F b j = fld Fo b j := fun b j n19_0 n19_1 n26_13 => (yz58034 b j n26_13).trans (hfr b j n19_0 n19_1 n26_13)
          exact t_iret hQ X hT (⟨rg_all _, hfr⟩) (Nat.le_of_ble_eq_true rfl) (Nat.le_of_ble_eq_true rfl) dX11_meet_85
  refine lv_aload_n hx hb dX11_meet_0 rfl (lv_at hl 0 rfl) ?_
  refine lv_iload_n hx hb dX11_meet_1 rfl (lv_at hl 1 rfl) ?_
  refine t_cVi (n := 1) (C := RX11) (T := TX11) (N := 16) (As := [.int p1]) (rest := []) X hT (kt93_X11_isHouse l G tag L F hT.2.2.2 p0 p1 m0 g0) m0 g0 rfl rfl qw_770 qw_771 qw_772 qw_2 qw_773 ⟨rfl, by decide +kernel, by decide +kernel, by decide +kernel⟩ ⟨Nat.le_of_ble_eq_true rfl, Nat.le_of_ble_eq_true rfl⟩ hl rfl rfl (Nat.le_of_ble_eq_true rfl) dX11_meet_2 ⟨Nat.le_of_ble_eq_true rfl, Nat.le_of_ble_eq_true rfl⟩ (fun z58035 F9 H locs hT hz58035 => ?_)
  obtain ⟨fz58035, hz58035⟩ := hz58035
  rw [fz58035] at hT
  obtain ⟨hz58035, iz58035⟩ := hz58035
  refine lv_if_eq (tgt := 21) hx hb dX11_meet_5 (by decide) (fun c58036 => ?_) (fun c58036 => ?_)
  · have w58037 := cv_eq (rfl : z58035.toInt = z58035.toInt) (by decide : (0 : Int32).toInt = 0) c58036
    exact K21  _ _ _ _  hT hfr  (lv_sub hl [0, 1, 2, 3] rfl)
  · have w58038 := cv_ne (rfl : z58035.toInt = z58035.toInt) (by decide : (0 : Int32).toInt = 0) c58036
    have w58039 := (fun h => (iz58035 h)) (by omega)
    refine lv_aload_n hx hb dX11_meet_8 rfl (lv_at hl 0 rfl) ?_
    refine lv_iload_n hx hb dX11_meet_9 rfl (lv_at hl 2 rfl) ?_
    refine t_cVi (n := 1) (C := RX11) (T := TX11) (N := 16) (As := [.int p2]) (rest := []) X hT (kt93_X11_isHouse l G tag L F hT.2.2.2 p0 p2 m0 g0) m0 g0 rfl rfl qw_770 qw_771 qw_772 qw_2 qw_773 ⟨rfl, by decide +kernel, by decide +kernel, by decide +kernel⟩ ⟨Nat.le_of_ble_eq_true rfl, Nat.le_of_ble_eq_true rfl⟩ hl rfl rfl (Nat.le_of_ble_eq_true rfl) dX11_meet_10 ⟨Nat.le_of_ble_eq_true rfl, Nat.le_of_ble_eq_true rfl⟩ (fun z58040 F9 H locs hT hz58040 => ?_)
    obtain ⟨fz58040, hz58040⟩ := hz58040
    rw [fz58040] at hT
    obtain ⟨hz58040, iz58040⟩ := hz58040
    refine lv_if_eq (tgt := 21) hx hb dX11_meet_13 (by decide) (fun c58041 => ?_) (fun c58041 => ?_)
    · have w58042 := cv_eq (rfl : z58040.toInt = z58040.toInt) (by decide : (0 : Int32).toInt = 0) c58041
      exact K21  _ _ _ _  hT hfr  (lv_sub hl [0, 1, 2, 3] rfl)
    · have w58043 := cv_ne (rfl : z58040.toInt = z58040.toInt) (by decide : (0 : Int32).toInt = 0) c58041
      have w58044 := (fun h => (iz58040 h)) (by omega)
      refine lv_iload_n hx hb dX11_meet_16 rfl (lv_at hl 1 rfl) ?_
      refine lv_iload_n hx hb dX11_meet_17 rfl (lv_at hl 2 rfl) ?_
      refine lv_icmp_ne (tgt := 27) hx hb dX11_meet_18 (by decide) (fun c58045 => ?_) (fun c58045 => ?_)
      · have w58046 := cv_ne (rfl : p1.toInt = p1.toInt) (rfl : p2.toInt = p2.toInt) c58045
        refine lv_iload_n hx hb dX11_meet_27 rfl (lv_at hl 3 rfl) ?_
        refine lv_if_lt (tgt := 37) hx hb dX11_meet_28 (by decide) (fun c58047 => ?_) (fun c58047 => ?_)
        · have w58048 := cv_lt (rfl : p3.toInt = p3.toInt) (by decide : (0 : Int32).toInt = 0) c58047
          exact K37  _ _ _ _ (by omega) (by omega) hT hfr  (lv_sub hl [0, 1, 2, 3] rfl)
        · have w58049 := cv_nlt (rfl : p3.toInt = p3.toInt) (by decide : (0 : Int32).toInt = 0) c58047
          refine lv_iload_n hx hb dX11_meet_31 rfl (lv_at hl 3 rfl) ?_
          refine lv_bipush (v := 60) hx hb dX11_meet_32 (by decide) ?_
          refine lv_icmp_le (tgt := 43) hx hb dX11_meet_34 (by decide) (fun c58050 => ?_) (fun c58050 => ?_)
          · have w58051 := cv_le (rfl : p3.toInt = p3.toInt) (by decide : (60 : Int32).toInt = 60) c58050
            refine lv_aload_n hx hb dX11_meet_43 rfl (lv_at hl 0 rfl) ?_
            refine t_get (C := RX11) (T := TX11) (N := 16) X hT m0 g0 rfl rfl 7 (by decide) qw_25 inlX11 rfl dX11_meet_44 (fun v58052 hv58052 ov58052 => ?_)
            obtain ⟨b58053, rfl, mb58053, gb58053⟩ := okV_r ov58052
            have gb58053 : tag b58053 = 19 := tg_of gb58053
            refine lv_aload_n hx hb dX11_meet_47 rfl (lv_at hl 0 rfl) ?_
            refine t_get (C := RX11) (T := TX11) (N := 16) X hT m0 g0 rfl rfl 5 (by decide) qw_23 inlX11 rfl dX11_meet_48 (fun v58054 hv58054 ov58054 => ?_)
            obtain ⟨b58055, rfl, mb58055, gb58055⟩ := okV_r ov58054
            have gb58055 : tag b58055 = 19 := tg_of gb58055
            refine t_cVv (n := 1) (C := RX7) (T := TX7) (N := 7) (As := [.ref b58055]) (rest := []) X hT (kt77_X7_copyFrom l G tag L F hT.2.2.2 b58053 b58055 mb58053 gb58053 mb58055 gb58055) mb58053 gb58053 rfl rfl qw_449 qw_450 qw_451 qw_22 qw_452 ⟨rfl, by decide +kernel, by decide +kernel, by decide +kernel⟩ ⟨Nat.le_of_ble_eq_true rfl, Nat.le_of_ble_eq_true rfl⟩ hl rfl rfl (Nat.le_of_ble_eq_true rfl) dX11_meet_51 ⟨Nat.le_of_ble_eq_true rfl, Nat.le_of_ble_eq_true rfl⟩ (fun F H locs hT hz58056 => ?_)
            have yz58056 := hz58056
            have hv58052 := (yz58056 _ 7 (Or.inr (by decide)) (Or.inr (by decide))).trans hv58052
            have hv58054 := (yz58056 _ 5 (Or.inr (by decide)) (Or.inr (by decide))).trans hv58054
            have hfr : ∀ b j : Nat, (tag b ≠ 19 ∨ j ≠ 0) → (tag b ≠ 19 ∨ j ≠ 1) → (tag b ≠ 26 ∨ j ≠ 13) → fld F b j = fld Fo b j := fun b j n19_0 n19_1 n26_13 => (yz58056 b j n19_0 n19_1).trans (hfr b j n19_0 n19_1 n26_13)
            refine lv_iconst (v := 0) hx hb dX11_meet_54 (by decide) ?_
            refine lv_istore (lv' := [(4, .int 0), (0, .ref p0), (1, .int p1), (2, .int p2), (3, .int p3)]) hx hb dX11_meet_55 hl (by decide) rfl (fun ls hl => ?_)
            have kk58057 : (0 : Int32).toInt = 0 := by decide
            exact K57 62 0 _ _ _ _ (by omega) (by decide) (by omega) (by omega) (by omega) hT hfr  (lv_sub hl [1, 2, 3, 4, 0] rfl)
          · have w58058 := cv_nle (rfl : p3.toInt = p3.toInt) (by decide : (60 : Int32).toInt = 60) c58050
            exact K37  _ _ _ _ (by omega) (by omega) hT hfr  (lv_sub hl [0, 1, 2, 3] rfl)
      · have w58059 := cv_eq (rfl : p1.toInt = p1.toInt) (rfl : p2.toInt = p2.toInt) c58045
        exact K21  _ _ _ _  hT hfr  (lv_sub hl [0, 1, 2, 3] rfl)
set_option maxHeartbeats 4000000 in
set_option maxRecDepth 100000 in
theorem kt162_X11_move (l : Launch) (G : KG) (tag : Nat → Nat) (L : List Nat) (Fo : Nat → va_E) (ho : okT G ttC tag L Fo) (p0 : Nat) (p1 : Int32) (p2 : Int32) (m0 : p0 ∈ L) (g0 : tag p0 = 26) : TMi l yX11_move cX11_move 3 (some .boolean) { frames := 3, cells := 0, slots := 0, locals := 68 } G ttC tag L Fo [.ref p0, .int p1, .int p2] (fun r F1 => (0 ≤ r.toInt ∧ r.toInt ≤ 1) ∧ (∀ b j : Nat, (tag b ≠ 19 ∨ j ≠ 0) → (tag b ≠ 19 ∨ j ≠ 1) → (tag b ≠ 23 ∨ j ≠ 2) → (tag b ≠ 23 ∨ j ≠ 3) → (tag b ≠ 26 ∨ j ≠ 13) → fld F1 b j = fld Fo b j)) := by
  refine t_bodyi (y := yX11_move) (cd := cX11_move) (mL := 3) (rt := (some .boolean)) (rm := { frames := 3, cells := 0, slots := 0, locals := 68 }) (av := [.ref p0, .int p1, .int p2]) (by decide) (Nat.le_of_ble_eq_true rfl) ho ?_
  intro p e s m args below meth c ls A Q hQ X hT hl
  have hx := X.1.1
  have hb := X.1.2.1
  have hl : lv_has ls 3 [(0, .ref p0), (1, .int p1), (2, .int p2)] := hl
  have rp1 := rg_all p1
  have rp2 := rg_all p2
  obtain ⟨F, hFo⟩ : ∃ F : Nat → va_E, F = Fo := ⟨_, rfl⟩
  rw [← hFo] at hT
  have hfr : ∀ b j : Nat, (tag b ≠ 19 ∨ j ≠ 0) → (tag b ≠ 19 ∨ j ≠ 1) → (tag b ≠ 23 ∨ j ≠ 2) → (tag b ≠ 23 ∨ j ≠ 3) → (tag b ≠ 26 ∨ j ≠ 13) → fld F b j = fld Fo b j := by
    rw [hFo]
    intros
    rfl
  have K25 : ∀  (F : Nat → va_E) (H : Heap) (locs : List Loc) (ls : Array Slot), TH G ttC A s tag L F H locs → (∀ b j : Nat, (tag b ≠ 19 ∨ j ≠ 0) → (tag b ≠ 19 ∨ j ≠ 1) → (tag b ≠ 23 ∨ j ≠ 2) → (tag b ≠ 23 ∨ j ≠ 3) → (tag b ≠ 26 ∨ j ≠ 13) → fld F b j = fld Fo b j) → lv_has ls 3 [(0, .ref p0), (1, .int p1), (2, .int p2)] → W p l e { frames := 3, cells := 0, slots := 0, locals := 68 } s m args below meth c H locs 0 0 Q (F0 m 25 ls []) := by
    intro F H locs ls hT hfr hl
    refine lv_aload_n hx hb dX11_move_25 rfl (lv_at hl 0 rfl) ?_
    refine lv_iconst (v := 1) hx hb dX11_move_26 (by decide) ?_
    refine t_cVi (n := 1) (C := RX11) (T := TX11) (N := 16) (As := [.int 1]) (rest := []) X hT (kt90_X11_no l G tag L F hT.2.2.2 p0 1 m0 g0) m0 g0 rfl rfl qw_1454 qw_1455 qw_1456 qw_2 qw_1457 ⟨rfl, by decide +kernel, by decide +kernel, by decide +kernel⟩ ⟨Nat.le_of_ble_eq_true rfl, Nat.le_of_ble_eq_true rfl⟩ hl rfl rfl (Nat.le_of_ble_eq_true rfl) dX11_move_27 ⟨Nat.le_of_ble_eq_true rfl, Nat.le_of_ble_eq_true rfl⟩ (fun z58610 F H locs hT hz58610 => ?_)
    obtain ⟨hz58610, yz58610⟩ := hz58610
    have hfr : ∀ b j : Nat, (tag b ≠ 19 ∨ j ≠ 0) → (tag b ≠ 19 ∨ j ≠ 1) → (tag b ≠ 23 ∨ j ≠ 2) → (tag b ≠ 23 ∨ j ≠ 3) → (tag b ≠ 26 ∨ j ≠ 13) → fld F b j = fld Fo b j := fun b j n19_0 n19_1 n23_2 n23_3 n26_13 => (yz58610 b j n26_13).trans (hfr b j n19_0 n19_1 n23_2 n23_3 n26_13)
    exact t_zret hQ X hT (nar_z (by omega)) (⟨(by omega), hfr⟩) (Nat.le_of_ble_eq_true rfl) (Nat.le_of_ble_eq_true rfl) dX11_move_30
  have K68 : ∀  (F : Nat → va_E) (H : Heap) (locs : List Loc) (ls : Array Slot), (0 ≤ p1.toInt ∧ p1.toInt ≤ 5) → (0 ≤ p2.toInt ∧ p2.toInt ≤ 6) → TH G ttC A s tag L F H locs → (∀ b j : Nat, (tag b ≠ 19 ∨ j ≠ 0) → (tag b ≠ 19 ∨ j ≠ 1) → (tag b ≠ 23 ∨ j ≠ 2) → (tag b ≠ 23 ∨ j ≠ 3) → (tag b ≠ 26 ∨ j ≠ 13) → fld F b j = fld Fo b j) → lv_has ls 3 [(0, .ref p0), (1, .int p1), (2, .int p2)] → W p l e { frames := 3, cells := 0, slots := 0, locals := 68 } s m args below meth c H locs 0 0 Q (F0 m 68 ls []) := by
    intro F H locs ls r9s58611 r9s58612 hT hfr hl
    refine lv_aload_n hx hb dX11_move_68 rfl (lv_at hl 0 rfl) ?_
    refine lv_iconst (v := 5) hx hb dX11_move_69 (by decide) ?_
    refine t_cVi (n := 1) (C := RX11) (T := TX11) (N := 16) (As := [.int 5]) (rest := []) X hT (kt90_X11_no l G tag L F hT.2.2.2 p0 5 m0 g0) m0 g0 rfl rfl qw_1454 qw_1455 qw_1456 qw_2 qw_1457 ⟨rfl, by decide +kernel, by decide +kernel, by decide +kernel⟩ ⟨Nat.le_of_ble_eq_true rfl, Nat.le_of_ble_eq_true rfl⟩ hl rfl rfl (Nat.le_of_ble_eq_true rfl) dX11_move_70 ⟨Nat.le_of_ble_eq_true rfl, Nat.le_of_ble_eq_true rfl⟩ (fun z58613 F H locs hT hz58613 => ?_)
    obtain ⟨hz58613, yz58613⟩ := hz58613
    have hfr : ∀ b j : Nat, (tag b ≠ 19 ∨ j ≠ 0) → (tag b ≠ 19 ∨ j ≠ 1) → (tag b ≠ 23 ∨ j ≠ 2) → (tag b ≠ 23 ∨ j ≠ 3) → (tag b ≠ 26 ∨ j ≠ 13) → fld F b j = fld Fo b j := fun b j n19_0 n19_1 n23_2 n23_3 n26_13 => (yz58613 b j n26_13).trans (hfr b j n19_0 n19_1 n23_2 n23_3 n26_13)
    exact t_zret hQ X hT (nar_z (by omega)) (⟨(by omega), hfr⟩) (Nat.le_of_ble_eq_true rfl) (Nat.le_of_ble_eq_true rfl) dX11_move_73
  have K74 : ∀  (F : Nat → va_E) (H : Heap) (locs : List Loc) (ls : Array Slot), (0 ≤ p1.toInt ∧ p1.toInt ≤ 5) → (0 ≤ p2.toInt ∧ p2.toInt ≤ 6) → TH G ttC A s tag L F H locs → (∀ b j : Nat, (tag b ≠ 19 ∨ j ≠ 0) → (tag b ≠ 19 ∨ j ≠ 1) → (tag b ≠ 23 ∨ j ≠ 2) → (tag b ≠ 23 ∨ j ≠ 3) → (tag b ≠ 26 ∨ j ≠ 13) → fld F b j = fld Fo b j) → lv_has ls 3 [(0, .ref p0), (1, .int p1), (2, .int p2)] → W p l e { frames := 3, cells := 0, slots := 0, locals := 68 } s m args below meth c H locs 0 0 Q (F0 m 74 ls []) := by
    intro F H locs ls r9s58614 r9s58615 hT hfr hl
    refine lv_aload_n hx hb dX11_move_74 rfl (lv_at hl 0 rfl) ?_
    refine t_get (C := RX11) (T := TX11) (N := 16) X hT m0 g0 rfl rfl 12 (by decide) qw_45 inlX11 rfl dX11_move_75 (fun v58616 hv58616 ov58616 => ?_)
    obtain ⟨b58617, rfl, mb58617, gb58617⟩ := okV_r ov58616
    have gb58617 : tag b58617 = 23 := tg_of gb58617
    refine lv_aload_n hx hb dX11_move_78 rfl (lv_at hl 0 rfl) ?_
    refine t_get (C := RX11) (T := TX11) (N := 16) X hT m0 g0 rfl rfl 5 (by decide) qw_23 inlX11 rfl dX11_move_79 (fun v58618 hv58618 ov58618 => ?_)
    obtain ⟨b58619, rfl, mb58619, gb58619⟩ := okV_r ov58618
    have gb58619 : tag b58619 = 19 := tg_of gb58619
    refine t_cVv (n := 1) (C := RX2) (T := TX2) (N := 5) (As := [.ref b58619]) (rest := []) X hT (kt100_X2_keep l G tag L F hT.2.2.2 b58617 b58619 mb58617 gb58617 mb58619 gb58619) mb58617 gb58617 rfl rfl qw_1427 qw_1428 qw_1429 qw_44 qw_1430 ⟨rfl, by decide +kernel, by decide +kernel, by decide +kernel⟩ ⟨Nat.le_of_ble_eq_true rfl, Nat.le_of_ble_eq_true rfl⟩ hl rfl rfl (Nat.le_of_ble_eq_true rfl) dX11_move_82 ⟨Nat.le_of_ble_eq_true rfl, Nat.le_of_ble_eq_true rfl⟩ (fun F H locs hT hz58620 => ?_)
    have yz58620 := hz58620
    have hv58616 := (yz58620 _ 12 (Or.inr (by decide)) (Or.inr (by decide)) (Or.inr (by decide)) (Or.inr (by decide))).trans hv58616
    have hv58618 := (yz58620 _ 5 (Or.inr (by decide)) (Or.inr (by decide)) (Or.inr (by decide)) (Or.inr (by decide))).trans hv58618
    have hfr : ∀ b j : Nat, (tag b ≠ 19 ∨ j ≠ 0) → (tag b ≠ 19 ∨ j ≠ 1) → (tag b ≠ 23 ∨ j ≠ 2) → (tag b ≠ 23 ∨ j ≠ 3) → (tag b ≠ 26 ∨ j ≠ 13) → fld F b j = fld Fo b j := fun b j n19_0 n19_1 n23_2 n23_3 n26_13 => (yz58620 b j n19_0 n19_1 n23_2 n23_3).trans (hfr b j n19_0 n19_1 n23_2 n23_3 n26_13)
    refine lv_aload_n hx hb dX11_move_85 rfl (lv_at hl 0 rfl) ?_
    refine t_get (C := RX11) (T := TX11) (N := 16) X hT m0 g0 rfl rfl 5 (by decide) qw_23 inlX11 rfl dX11_move_86 (fun v58621 hv58621 ov58621 => ?_)
    obtain rfl : v58621 = .ref b58619 := hv58621.symm.trans hv58618
    refine t_get (C := RX7) (T := TX7) (N := 7) X hT mb58619 gb58619 rfl rfl 5 (by decide) qw_886 inlX7 rfl dX11_move_89 (fun v58622 hv58622 ov58622 => ?_)
    obtain ⟨b58623, rfl, mb58623, gb58623⟩ := okV_r ov58622
    have gb58623 : tag b58623 = 7 := tg_of gb58623
    refine lv_iload_n hx hb dX11_move_92 rfl (lv_at hl 1 rfl) ?_
    refine lv_iload_n hx hb dX11_move_93 rfl (lv_at hl 2 rfl) ?_
    refine t_ist X hT mb58623 gb58623 rfl (by omega) (show (-2147483648) ≤ (p2 : Int32).toInt ∧ (p2 : Int32).toInt ≤ 2147483647 from (by omega)) dX11_move_94 (fun F H locs hT v58624 h1v58624 h2v58624 => ?_)
    have hv58616 := (h2v58624 _ _).trans hv58616
    have hv58618 := (h2v58624 _ _).trans hv58618
    have hv58622 := (h2v58624 _ _).trans hv58622
    have hfr : ∀ b j : Nat, (tag b ≠ 19 ∨ j ≠ 0) → (tag b ≠ 19 ∨ j ≠ 1) → (tag b ≠ 23 ∨ j ≠ 2) → (tag b ≠ 23 ∨ j ≠ 3) → (tag b ≠ 26 ∨ j ≠ 13) → fld F b j = fld Fo b j := fun b j n19_0 n19_1 n23_2 n23_3 n26_13 => (h2v58624 b j).trans (hfr b j n19_0 n19_1 n23_2 n23_3 n26_13)
    refine lv_aload_n hx hb dX11_move_95 rfl (lv_at hl 0 rfl) ?_
    refine t_cVi (n := 0) (C := RX11) (T := TX11) (N := 16) (As := []) (rest := []) X hT (kt91_X11_yes l G tag L F hT.2.2.2 p0 m0 g0) m0 g0 rfl rfl qw_1460 qw_1461 qw_1462 qw_2 qw_1463 ⟨rfl, by decide +kernel, by decide +kernel, by decide +kernel⟩ ⟨Nat.le_of_ble_eq_true rfl, Nat.le_of_ble_eq_true rfl⟩ hl rfl rfl (Nat.le_of_ble_eq_true rfl) dX11_move_96 ⟨Nat.le_of_ble_eq_true rfl, Nat.le_of_ble_eq_true rfl⟩ (fun z58625 F H locs hT hz58625 => ?_)
    obtain ⟨hz58625, yz58625⟩ := hz58625
    have hv58616 := (yz58625 _ 12 (Or.inr (by decide))).trans hv58616
    have hv58618 := (yz58625 _ 5 (Or.inr (by decide))).trans hv58618
    have hv58622 := (yz58625 _ 5 (Or.inr (by decide))).trans hv58622
    have hfr : ∀ b j : Nat, (tag b ≠ 19 ∨ j ≠ 0) → (tag b ≠ 19 ∨ j ≠ 1) → (tag b ≠ 23 ∨ j ≠ 2) → (tag b ≠ 23 ∨ j ≠ 3) → (tag b ≠ 26 ∨ j ≠ 13) → fld F b j = fld Fo b j := fun b j n19_0 n19_1 n23_2 n23_3 n26_13 => (yz58625 b j n26_13).trans (hfr b j n19_0 n19_1 n23_2 n23_3 n26_13)
    exact t_zret hQ X hT (nar_z (by omega)) (⟨(by omega), hfr⟩) (Nat.le_of_ble_eq_true rfl) (Nat.le_of_ble_eq_true rfl) dX11_move_99
  refine lv_aload_n hx hb dX11_move_0 rfl (lv_at hl 0 rfl) ?_
  refine lv_iload_n hx hb dX11_move_1 rfl (lv_at hl 1 rfl) ?_
  refine t_cVi (n := 1) (C := RX11) (T := TX11) (N := 16) (As := [.int p1]) (rest := []) X hT (kt121_X11_isHeir l G tag L F hT.2.2.2 p0 p1 m0 g0) m0 g0 rfl rfl qw_887 qw_888 qw_889 qw_2 qw_890 ⟨rfl, by decide +kernel, by decide +kernel, by decide +kernel⟩ ⟨Nat.le_of_ble_eq_true rfl, Nat.le_of_ble_eq_true rfl⟩ hl rfl rfl (Nat.le_of_ble_eq_true rfl) dX11_move_2 ⟨Nat.le_of_ble_eq_true rfl, Nat.le_of_ble_eq_true rfl⟩ (fun z58626 F9 H locs hT hz58626 => ?_)
  obtain ⟨fz58626, hz58626⟩ := hz58626
  rw [fz58626] at hT
  obtain ⟨hz58626, iz58626⟩ := hz58626
  refine lv_if_eq (tgt := 25) hx hb dX11_move_5 (by decide) (fun c58627 => ?_) (fun c58627 => ?_)
  · have w58628 := cv_eq (rfl : z58626.toInt = z58626.toInt) (by decide : (0 : Int32).toInt = 0) c58627
    exact K25  _ _ _ _  hT hfr  (lv_sub hl [0, 1, 2] rfl)
  · have w58629 := cv_ne (rfl : z58626.toInt = z58626.toInt) (by decide : (0 : Int32).toInt = 0) c58627
    have w58630 := (fun h => (iz58626 h)) (by omega)
    refine lv_aload_n hx hb dX11_move_8 rfl (lv_at hl 0 rfl) ?_
    refine lv_aload_n hx hb dX11_move_9 rfl (lv_at hl 0 rfl) ?_
    refine t_get (C := RX11) (T := TX11) (N := 16) X hT m0 g0 rfl rfl 3 (by decide) qw_18 inlX11 rfl dX11_move_10 (fun v58631 hv58631 ov58631 => ?_)
    obtain ⟨b58632, rfl, mb58632, gb58632⟩ := okV_r ov58631
    have gb58632 : tag b58632 = 18 := tg_of gb58632
    refine t_get (C := RX1) (T := TX1) (N := 20) X hT mb58632 gb58632 rfl rfl 15 (by decide) qw_885 inlX1 rfl dX11_move_13 (fun v58633 hv58633 ov58633 => ?_)
    obtain ⟨b58634, rfl, mb58634, gb58634⟩ := okV_r ov58633
    have gb58634 : tag b58634 = 6 := tg_of gb58634
    refine lv_iload_n hx hb dX11_move_16 rfl (lv_at hl 1 rfl) ?_
    refine t_ild X hT mb58634 gb58634 rfl (by omega) dX11_move_17 (fun z58635 vz58635 rz58635 => ?_)
    have rz58635 : 0 ≤ z58635.toInt ∧ z58635.toInt ≤ 3 := rz58635
    refine lv_iload_n hx hb dX11_move_18 rfl (lv_at hl 2 rfl) ?_
    refine t_cVi (n := 2) (C := RX11) (T := TX11) (N := 16) (As := [.int z58635, .int p2]) (rest := []) X hT (kt94_X11_isRoom l G tag L F hT.2.2.2 p0 z58635 p2 m0 g0) m0 g0 rfl rfl qw_827 qw_828 qw_829 qw_2 qw_830 ⟨rfl, by decide +kernel, by decide +kernel, by decide +kernel⟩ ⟨Nat.le_of_ble_eq_true rfl, Nat.le_of_ble_eq_true rfl⟩ hl rfl rfl (Nat.le_of_ble_eq_true rfl) dX11_move_19 ⟨Nat.le_of_ble_eq_true rfl, Nat.le_of_ble_eq_true rfl⟩ (fun z58636 F9 H locs hT hz58636 => ?_)
    obtain ⟨fz58636, hz58636⟩ := hz58636
    rw [fz58636] at hT
    obtain ⟨hz58636, iz58636⟩ := hz58636
    refine lv_if_ne (tgt := 31) hx hb dX11_move_22 (by decide) (fun c58637 => ?_) (fun c58637 => ?_)
    · have w58638 := cv_ne (rfl : z58636.toInt = z58636.toInt) (by decide : (0 : Int32).toInt = 0) c58637
      have w58639 := (fun h => (iz58636 h).1) (by omega)
      have w58640 := (fun h => (iz58636 h).2) (by omega)
      refine lv_aload_n hx hb dX11_move_31 rfl (lv_at hl 0 rfl) ?_
      refine t_get (C := RX11) (T := TX11) (N := 16) X hT m0 g0 rfl rfl 5 (by decide) qw_23 inlX11 rfl dX11_move_32 (fun v58641 hv58641 ov58641 => ?_)
      obtain ⟨b58642, rfl, mb58642, gb58642⟩ := okV_r ov58641
      have gb58642 : tag b58642 = 19 := tg_of gb58642
      refine t_get (C := RX7) (T := TX7) (N := 7) X hT mb58642 gb58642 rfl rfl 5 (by decide) qw_886 inlX7 rfl dX11_move_35 (fun v58643 hv58643 ov58643 => ?_)
      obtain ⟨b58644, rfl, mb58644, gb58644⟩ := okV_r ov58643
      have gb58644 : tag b58644 = 7 := tg_of gb58644
      refine lv_iload_n hx hb dX11_move_38 rfl (lv_at hl 1 rfl) ?_
      refine t_ild X hT mb58644 gb58644 rfl (by omega) dX11_move_39 (fun z58645 vz58645 rz58645 => ?_)
      have rz58645 : (-2147483648) ≤ z58645.toInt ∧ z58645.toInt ≤ 2147483647 := rz58645
      refine lv_iload_n hx hb dX11_move_40 rfl (lv_at hl 2 rfl) ?_
      refine lv_icmp_eq (tgt := 68) hx hb dX11_move_41 (by decide) (fun c58646 => ?_) (fun c58646 => ?_)
      · have w58647 := cv_eq (rfl : z58645.toInt = z58645.toInt) (rfl : p2.toInt = p2.toInt) c58646
        exact K68  _ _ _ _ (by omega) (by omega) hT hfr  (lv_sub hl [0, 1, 2] rfl)
      · have w58648 := cv_ne (rfl : z58645.toInt = z58645.toInt) (rfl : p2.toInt = p2.toInt) c58646
        refine lv_iload_n hx hb dX11_move_44 rfl (lv_at hl 2 rfl) ?_
        refine lv_if_le (tgt := 74) hx hb dX11_move_45 (by decide) (fun c58649 => ?_) (fun c58649 => ?_)
        · have w58650 := cv_le (rfl : p2.toInt = p2.toInt) (by decide : (0 : Int32).toInt = 0) c58649
          exact K74  _ _ _ _ (by omega) (by omega) hT hfr  (lv_sub hl [0, 1, 2] rfl)
        · have w58651 := cv_nle (rfl : p2.toInt = p2.toInt) (by decide : (0 : Int32).toInt = 0) c58649
          refine lv_aload_n hx hb dX11_move_48 rfl (lv_at hl 0 rfl) ?_
          refine t_get (C := RX11) (T := TX11) (N := 16) X hT m0 g0 rfl rfl 5 (by decide) qw_23 inlX11 rfl dX11_move_49 (fun v58652 hv58652 ov58652 => ?_)
          obtain rfl : v58652 = .ref b58642 := hv58652.symm.trans hv58641
          refine lv_aload_n hx hb dX11_move_52 rfl (lv_at hl 0 rfl) ?_
          refine t_get (C := RX11) (T := TX11) (N := 16) X hT m0 g0 rfl rfl 3 (by decide) qw_18 inlX11 rfl dX11_move_53 (fun v58653 hv58653 ov58653 => ?_)
          obtain rfl : v58653 = .ref b58632 := hv58653.symm.trans hv58631
          refine t_get (C := RX1) (T := TX1) (N := 20) X hT mb58632 gb58632 rfl rfl 15 (by decide) qw_885 inlX1 rfl dX11_move_56 (fun v58654 hv58654 ov58654 => ?_)
          obtain rfl : v58654 = .ref b58634 := hv58654.symm.trans hv58633
          refine lv_iload_n hx hb dX11_move_59 rfl (lv_at hl 1 rfl) ?_
          refine t_ild X hT mb58634 gb58634 rfl (by omega) dX11_move_60 (fun z58655 vz58655 rz58655 => ?_)
          obtain rfl : z58635 = z58655 := vz58635.symm.trans vz58655
          refine lv_iload_n hx hb dX11_move_61 rfl (lv_at hl 2 rfl) ?_
          refine t_cVi (n := 2) (C := RX7) (T := TX7) (N := 7) (As := [.int z58635, .int p2]) (rest := []) X hT (kt33_X7_isOpen l G tag L F hT.2.2.2 b58642 z58635 p2 mb58642 gb58642) mb58642 gb58642 rfl rfl qw_1458 qw_984 qw_985 qw_22 qw_986 ⟨rfl, by decide +kernel, by decide +kernel, by decide +kernel⟩ ⟨Nat.le_of_ble_eq_true rfl, Nat.le_of_ble_eq_true rfl⟩ hl rfl rfl (Nat.le_of_ble_eq_true rfl) dX11_move_62 ⟨Nat.le_of_ble_eq_true rfl, Nat.le_of_ble_eq_true rfl⟩ (fun z58656 F9 H locs hT hz58656 => ?_)
          obtain ⟨fz58656, hz58656⟩ := hz58656
          rw [fz58656] at hT
          refine lv_if_ne (tgt := 74) hx hb dX11_move_65 (by decide) (fun c58657 => ?_) (fun c58657 => ?_)
          · have w58658 := cv_ne (rfl : z58656.toInt = z58656.toInt) (by decide : (0 : Int32).toInt = 0) c58657
            exact K74  _ _ _ _ (by omega) (by omega) hT hfr  (lv_sub hl [0, 1, 2] rfl)
          · have w58659 := cv_eq (rfl : z58656.toInt = z58656.toInt) (by decide : (0 : Int32).toInt = 0) c58657
            exact K68  _ _ _ _ (by omega) (by omega) hT hfr  (lv_sub hl [0, 1, 2] rfl)
    · have w58660 := cv_eq (rfl : z58636.toInt = z58636.toInt) (by decide : (0 : Int32).toInt = 0) c58637
      exact K25  _ _ _ _  hT hfr  (lv_sub hl [0, 1, 2] rfl)
