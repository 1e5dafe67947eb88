set_option maxHeartbeats 4000000 in
set_option maxRecDepth 100000 in
theorem kt74_X10_burn (l : Launch) (G : KG) (tag : Nat → Nat) (L : List Nat) (Fo : Nat → va_E) (ho : okT G ttC tag L Fo) (p0 : Nat) (p1 : Nat) (p2 : Int32) (m0 : p0 ∈ L) (g0 : tag p0 = 18) (m1 : p1 ∈ L) (g1 : tag p1 = 19) (h2 : 0 ≤ p2.toInt ∧ p2.toInt ≤ 3) : TMv l yX10_burn cX10_burn 5 { frames := 1, cells := 0, slots := 0, locals := 25 } G ttC tag L Fo [.ref p0, .ref p1, .int p2] (fun F1 => ∀ b j : Nat, fld F1 b j = fld Fo b j) := by
  refine t_bodyv (y := yX10_burn) (cd := cX10_burn) (mL := 5) (rm := { frames := 1, cells := 0, slots := 0, locals := 25 }) (av := [.ref p0, .ref p1, .int p2]) (by decide) (Nat.le_of_ble_eq_true rfl) ho ?_
  intro p e s m args below meth c ls A Q hQ X hT hl
  have hx := X.1.1
  have hb := X.1.2.1
  have hl : lv_has ls 5 [(0, .ref p0), (1, .ref p1), (2, .int p2)] := hl
  obtain ⟨F, hFo⟩ : ∃ F : Nat → va_E, F = Fo := ⟨_, rfl⟩
  rw [← hFo] at hT
  have hfr : ∀ b j : Nat, fld F b j = fld Fo b j := by
    rw [hFo]
    intros
    rfl
  have K2 : ∀ (n : Nat) (z24431 : Int32) (F : Nat → va_E) (H : Heap) (locs : List Loc) (ls : Array Slot), (7 - z24431.toInt < (n : Int)) → (1 ≤ z24431.toInt ∧ z24431.toInt ≤ 7) → TH G ttC A s tag L F H locs → (∀ b j : Nat, fld F b j = fld Fo b j) → lv_has ls 5 [(0, .ref p0), (1, .ref p1), (2, .int p2), (3, .int z24431)] → W p l e { frames := 1, cells := 0, slots := 0, locals := 25 } s m args below meth c H locs 0 0 Q (F0 m 2 ls []) := by
    intro n
    induction n with
    | zero =>
      intro z24431 F H locs ls hn rz24431 hT hfr hl
      exfalso
      omega
    | succ n ih2 =>
      intro z24431 F H locs ls hn rz24431 hT hfr hl
      have K59 : ∀ (z24433 : Int32) (F : Nat → va_E) (H : Heap) (locs : List Loc) (ls : Array Slot), (0 ≤ z24433.toInt ∧ z24433.toInt ≤ 1) → (1 ≤ z24431.toInt ∧ z24431.toInt ≤ 6) → TH G ttC A s tag L F H locs → (∀ b j : Nat, fld F b j = fld Fo b j) → lv_has ls 5 [(0, .ref p0), (1, .ref p1), (2, .int p2), (3, .int z24431), (4, .int z24433)] → W p l e { frames := 1, cells := 0, slots := 0, locals := 25 } s m args below meth c H locs 0 0 Q (F0 m 59 ls []) := by
        intro z24433 F H locs ls rz24433 r9s24432 hT hfr hl
        obtain ⟨z24434, ez24434⟩ : ∃ y : Int32, y = z24431 + 1 := ⟨_, rfl⟩
        have hz24434 : z24434.toInt = z24431.toInt + 1 := ar_add ez24434 rfl (by decide : (1 : Int32).toInt = 1) (by omega) (by omega)
        refine lv_iinc (v := z24434) (lv' := [(3, .int z24434), (0, .ref p0), (1, .ref p1), (2, .int p2), (4, .int z24433)]) hx hb dX10_burn_59 hl (k := 3) rfl (by rw [ez24434]; rfl) (by decide) rfl (fun ls hl => ?_)
        refine lv_goto (tgt := 2) hx hb dX10_burn_62 (by decide) ?_
        exact ih2 z24434 _ _ _ _ (by omega) (by omega) hT hfr  (lv_sub hl [1, 2, 3, 0] rfl)
      have K33 : ∀ (z24436 : Int32) (F : Nat → va_E) (H : Heap) (locs : List Loc) (ls : Array Slot), (0 ≤ z24436.toInt ∧ z24436.toInt ≤ 1) → (1 ≤ z24431.toInt ∧ z24431.toInt ≤ 6) → TH G ttC A s tag L F H locs → (∀ b j : Nat, fld F b j = fld Fo b j) → lv_has ls 5 [(0, .ref p0), (1, .ref p1), (2, .int p2), (3, .int z24431)] → W p l e { frames := 1, cells := 0, slots := 0, locals := 25 } s m args below meth c H locs 0 0 Q (F0 m 33 ls [.int z24436]) := by
        intro z24436 F H locs ls rz24436 r9s24435 hT hfr hl
        refine lv_istore (lv' := [(4, .int z24436), (0, .ref p0), (1, .ref p1), (2, .int p2), (3, .int z24431)]) hx hb dX10_burn_33 hl (by decide) rfl (fun ls hl => ?_)
        refine lv_iload hx hb dX10_burn_35 (lv_at hl 0 rfl) ?_
        refine lv_if_eq (tgt := 59) hx hb dX10_burn_37 (by decide) (fun c24437 => ?_) (fun c24437 => ?_)
        · have w24438 := cv_eq (rfl : z24436.toInt = z24436.toInt) (by decide : (0 : Int32).toInt = 0) c24437
          exact K59 z24436 _ _ _ _ (by omega) (by omega) hT hfr  (lv_sub hl [1, 2, 3, 4, 0] rfl)
        · have w24439 := cv_ne (rfl : z24436.toInt = z24436.toInt) (by decide : (0 : Int32).toInt = 0) c24437
          refine lv_aload_n hx hb dX10_burn_40 rfl (lv_at hl 2 rfl) ?_
          refine lv_iload_n hx hb dX10_burn_41 rfl (lv_at hl 3 rfl) ?_
          refine lv_iload_n hx hb dX10_burn_42 rfl (lv_at hl 4 rfl) ?_
          refine lv_bipush (v := 6) hx hb dX10_burn_43 (by decide) ?_
          refine t_cVi (n := 3) (C := RX7) (T := TX7) (N := 7) (As := [.int p2, .int z24431, .int 6]) (rest := []) X hT (kt19_X7_partOf l G tag L F hT.2.2.2 p1 p2 z24431 6 m1 g1) m1 g1 rfl rfl qw_1121 qw_778 qw_779 qw_22 qw_780 ⟨rfl, by decide +kernel, by decide +kernel, by decide +kernel⟩ ⟨Nat.le_of_ble_eq_true rfl, Nat.le_of_ble_eq_true rfl⟩ hl rfl rfl (Nat.le_of_ble_eq_true rfl) dX10_burn_45 ⟨Nat.le_of_ble_eq_true rfl, Nat.le_of_ble_eq_true rfl⟩ (fun z24440 F9 H locs hT hz24440 => ?_)
          obtain ⟨fz24440, hz24440⟩ := hz24440
          rw [fz24440] at hT
          refine lv_if_ne (tgt := 59) hx hb dX10_burn_48 (by decide) (fun c24441 => ?_) (fun c24441 => ?_)
          · have w24442 := cv_ne (rfl : z24440.toInt = z24440.toInt) (by decide : (0 : Int32).toInt = 0) c24441
            exact K59 z24436 _ _ _ _ (by omega) (by omega) hT hfr  (lv_sub hl [1, 2, 3, 4, 0] rfl)
          · have w24443 := cv_eq (rfl : z24440.toInt = z24440.toInt) (by decide : (0 : Int32).toInt = 0) c24441
            refine lv_aload_n hx hb dX10_burn_51 rfl (lv_at hl 2 rfl) ?_
            refine lv_iload_n hx hb dX10_burn_52 rfl (lv_at hl 3 rfl) ?_
            refine lv_iload_n hx hb dX10_burn_53 rfl (lv_at hl 4 rfl) ?_
            refine lv_iconst (v := 5) hx hb dX10_burn_54 (by decide) ?_
            refine lv_iconst (v := 1) hx hb dX10_burn_55 (by decide) ?_
            refine t_cVv (n := 4) (C := RX7) (T := TX7) (N := 7) (As := [.int p2, .int z24431, .int 5, .int 1]) (rest := []) X hT (kt17_X7_setPart l G tag L F hT.2.2.2 p1 p2 z24431 5 1 m1 g1) m1 g1 rfl rfl qw_1124 qw_423 qw_424 qw_22 qw_425 ⟨rfl, by decide +kernel, by decide +kernel, by decide +kernel⟩ ⟨Nat.le_of_ble_eq_true rfl, Nat.le_of_ble_eq_true rfl⟩ hl rfl rfl (Nat.le_of_ble_eq_true rfl) dX10_burn_56 ⟨Nat.le_of_ble_eq_true rfl, Nat.le_of_ble_eq_true rfl⟩ (fun F H locs hT hz24444 => ?_)
            have yz24444 := hz24444
            have hfr : ∀ b j : Nat, fld F b j = fld Fo b j := fun b j  => (yz24444 b j ).trans (hfr b j )
            exact K59 z24436 _ _ _ _ (by omega) (by omega) hT hfr  (lv_sub hl [1, 2, 3, 4, 0] rfl)
      refine lv_iload_n hx hb dX10_burn_2 rfl (lv_at hl 3 rfl) ?_
      refine lv_aload_n hx hb dX10_burn_3 rfl (lv_at hl 1 rfl) ?_
      refine t_get (C := RX7) (T := TX7) (N := 7) X hT m1 g1 rfl rfl 2 (by decide) qw_1119 inlX7 rfl dX10_burn_4 (fun v24445 hv24445 ov24445 => ?_)
      obtain ⟨b24446, rfl, mb24446, gb24446⟩ := okV_r ov24445
      have gb24446 : tag b24446 = 8 := tg_of gb24446
      refine lv_iload_n hx hb dX10_burn_7 rfl (lv_at hl 2 rfl) ?_
      refine t_ild X hT mb24446 gb24446 rfl (by omega) dX10_burn_8 (fun z24447 vz24447 rz24447 => ?_)
      have rz24447 : 0 ≤ z24447.toInt ∧ z24447.toInt ≤ 6 := rz24447
      refine lv_icmp_gt (tgt := 65) hx hb dX10_burn_9 (by decide) (fun c24448 => ?_) (fun c24448 => ?_)
      · have w24449 := cv_lt (rfl : z24447.toInt = z24447.toInt) (rfl : z24431.toInt = z24431.toInt) c24448
        exact t_vret hQ X hT hfr (Nat.le_of_ble_eq_true rfl) (Nat.le_of_ble_eq_true rfl) dX10_burn_65
      · have w24450 := cv_nlt (rfl : z24447.toInt = z24447.toInt) (rfl : z24431.toInt = z24431.toInt) c24448
        refine lv_aload_n hx hb dX10_burn_12 rfl (lv_at hl 0 rfl) ?_
        refine lv_aload_n hx hb dX10_burn_13 rfl (lv_at hl 1 rfl) ?_
        refine lv_iload_n hx hb dX10_burn_14 rfl (lv_at hl 2 rfl) ?_
        refine lv_iload_n hx hb dX10_burn_15 rfl (lv_at hl 3 rfl) ?_
        refine lv_iconst (v := 0) hx hb dX10_burn_16 (by decide) ?_
        refine t_cVi (n := 3) (C := RX7) (T := TX7) (N := 7) (As := [.int p2, .int z24431, .int 0]) (rest := [.ref p0]) X hT (kt19_X7_partOf l G tag L F hT.2.2.2 p1 p2 z24431 0 m1 g1) m1 g1 rfl rfl qw_1121 qw_778 qw_779 qw_22 qw_780 ⟨rfl, by decide +kernel, by decide +kernel, by decide +kernel⟩ ⟨Nat.le_of_ble_eq_true rfl, Nat.le_of_ble_eq_true rfl⟩ hl rfl rfl (Nat.le_of_ble_eq_true rfl) dX10_burn_17 ⟨Nat.le_of_ble_eq_true rfl, Nat.le_of_ble_eq_true rfl⟩ (fun z24451 F9 H locs hT hz24451 => ?_)
        obtain ⟨fz24451, hz24451⟩ := hz24451
        rw [fz24451] at hT
        refine lv_iconst (v := 0) hx hb dX10_burn_20 (by decide) ?_
        refine t_cVi (n := 2) (C := RX1) (T := TX1) (N := 20) (As := [.int z24451, .int 0]) (rest := []) X hT (kt48_X1_stonePart l G tag L F hT.2.2.2 p0 z24451 0 m0 g0) m0 g0 rfl rfl qw_1122 qw_858 qw_859 qw_17 qw_860 ⟨rfl, by decide +kernel, by decide +kernel, by decide +kernel⟩ ⟨Nat.le_of_ble_eq_true rfl, Nat.le_of_ble_eq_true rfl⟩ hl rfl rfl (Nat.le_of_ble_eq_true rfl) dX10_burn_21 ⟨Nat.le_of_ble_eq_true rfl, Nat.le_of_ble_eq_true rfl⟩ (fun z24452 F9 H locs hT hz24452 => ?_)
        obtain ⟨fz24452, hz24452⟩ := hz24452
        rw [fz24452] at hT
        refine lv_iconst (v := 2) hx hb dX10_burn_24 (by decide) ?_
        refine lv_icmp_ne (tgt := 32) hx hb dX10_burn_25 (by decide) (fun c24453 => ?_) (fun c24453 => ?_)
        · have w24454 := cv_ne (rfl : z24452.toInt = z24452.toInt) (by decide : (2 : Int32).toInt = 2) c24453
          refine lv_iconst (v := 0) hx hb dX10_burn_32 (by decide) ?_
          exact K33 0 _ _ _ _ (by decide) (by omega) hT hfr  (lv_sub hl [0, 1, 2, 3] rfl)
        · have w24455 := cv_eq (rfl : z24452.toInt = z24452.toInt) (by decide : (2 : Int32).toInt = 2) c24453
          refine lv_iconst (v := 1) hx hb dX10_burn_28 (by decide) ?_
          refine lv_goto (tgt := 33) hx hb dX10_burn_29 (by decide) ?_
          exact K33 1 _ _ _ _ (by decide) (by omega) hT hfr  (lv_sub hl [0, 1, 2, 3] rfl)
  refine lv_iconst (v := 1) hx hb dX10_burn_0 (by decide) ?_
  refine lv_istore_n (lv' := [(3, .int 1), (0, .ref p0), (1, .ref p1), (2, .int p2)]) hx hb dX10_burn_1 rfl hl (by decide) rfl (fun ls hl => ?_)
  have kk24456 : (1 : Int32).toInt = 1 := by decide
  exact K2 7 1 _ _ _ _ (by omega) (by decide) hT hfr  (lv_sub hl [1, 2, 3, 0] rfl)
set_option maxHeartbeats 4000000 in
set_option maxRecDepth 100000 in
theorem kt75_X10_liveOn (l : Launch) (G : KG) (tag : Nat → Nat) (L : List Nat) (Fo : Nat → va_E) (ho : okT G ttC tag L Fo) (p0 : Nat) (p1 : Nat) (p2 : Int32) (m0 : p0 ∈ L) (g0 : tag p0 = 18) (m1 : p1 ∈ L) (g1 : tag p1 = 19) (h2 : 0 ≤ p2.toInt ∧ p2.toInt ≤ 3) : TMv l yX10_liveOn cX10_liveOn 3 { frames := 4, cells := 0, slots := 0, locals := 93 } G ttC tag L Fo [.ref p0, .ref p1, .int p2] (fun F1 => ∀ b j : Nat, (tag b ≠ 19 ∨ j ≠ 1) → fld F1 b j = fld Fo b j) := by
  refine t_bodyv (y := yX10_liveOn) (cd := cX10_liveOn) (mL := 3) (rm := { frames := 4, cells := 0, slots := 0, locals := 93 }) (av := [.ref p0, .ref p1, .int p2]) (by decide) (Nat.le_of_ble_eq_true rfl) ho ?_
  intro p e s m args below meth c ls A Q hQ X hT hl
  have hx := X.1.1
  have hb := X.1.2.1
  have hl : lv_has ls 3 [(0, .ref p0), (1, .ref p1), (2, .int p2)] := hl
  obtain ⟨F, hFo⟩ : ∃ F : Nat → va_E, F = Fo := ⟨_, rfl⟩
  rw [← hFo] at hT
  have hfr : ∀ b j : Nat, (tag b ≠ 19 ∨ j ≠ 1) → fld F b j = fld Fo b j := by
    rw [hFo]
    intros
    rfl
  have K63 : ∀ (z24828 : Int32) (z24829 : Int32) (F : Nat → va_E) (H : Heap) (locs : List Loc) (ls : Array Slot), TH G ttC A s tag L F H locs → (∀ b j : Nat, (tag b ≠ 19 ∨ j ≠ 1) → fld F b j = fld Fo b j) → fld F p0 6 = .int z24828 → fld F p0 4 = .int z24829 → lv_has ls 3 [(0, .ref p0), (1, .ref p1), (2, .int p2)] → W p l e { frames := 4, cells := 0, slots := 0, locals := 93 } s m args below meth c H locs 0 0 Q (F0 m 63 ls []) := by
    intro z24828 z24829 F H locs ls hT hfr qz24828 qz24829 hl
    have rz24828 := rg_all z24828
    have rz24829 := rg_all z24829
    refine lv_aload_n hx hb dX10_liveOn_63 rfl (lv_at hl 0 rfl) ?_
    refine lv_aload_n hx hb dX10_liveOn_64 rfl (lv_at hl 1 rfl) ?_
    refine lv_iload_n hx hb dX10_liveOn_65 rfl (lv_at hl 2 rfl) ?_
    refine t_cSv (n := 3) (As := [.ref p0, .ref p1, .int p2]) (rest := []) X hT (kt73_X10_rotAll l G tag L F hT.2.2.2 p0 p1 p2 m0 g0 m1 g1 (by omega)) qw_1116 qw_1117 qw_32 qw_1118 ⟨by decide +kernel, by decide +kernel, by decide +kernel⟩ ⟨Nat.le_of_ble_eq_true rfl, Nat.le_of_ble_eq_true rfl⟩ hl rfl rfl (Nat.le_of_ble_eq_true rfl) dX10_liveOn_66 ⟨Nat.le_of_ble_eq_true rfl, Nat.le_of_ble_eq_true rfl⟩ (fun F H locs hT hz24830 => ?_)
    have yz24830 := hz24830
    have qz24828 := (yz24830 _ 6 ).trans qz24828
    have qz24829 := (yz24830 _ 4 ).trans qz24829
    have hfr : ∀ b j : Nat, (tag b ≠ 19 ∨ j ≠ 1) → fld F b j = fld Fo b j := fun b j n19_1 => (yz24830 b j ).trans (hfr b j n19_1)
    refine lv_aload_n hx hb dX10_liveOn_69 rfl (lv_at hl 1 rfl) ?_
    refine t_cVi (n := 0) (C := RX7) (T := TX7) (N := 7) (As := []) (rest := []) X hT (kt72_X7_draw l G tag L F hT.2.2.2 p1 m1 g1) m1 g1 rfl rfl qw_1111 qw_1112 qw_1113 qw_22 qw_1114 ⟨rfl, by decide +kernel, by decide +kernel, by decide +kernel⟩ ⟨Nat.le_of_ble_eq_true rfl, Nat.le_of_ble_eq_true rfl⟩ hl rfl rfl (Nat.le_of_ble_eq_true rfl) dX10_liveOn_70 ⟨Nat.le_of_ble_eq_true rfl, Nat.le_of_ble_eq_true rfl⟩ (fun z24831 F H locs hT hz24831 => ?_)
    obtain ⟨hz24831, yz24831⟩ := hz24831
    have qz24828 := (yz24831 _ 6 (Or.inr (by decide))).trans qz24828
    have qz24829 := (yz24831 _ 4 (Or.inr (by decide))).trans qz24829
    have hfr : ∀ b j : Nat, (tag b ≠ 19 ∨ j ≠ 1) → fld F b j = fld Fo b j := fun b j n19_1 => (yz24831 b j n19_1).trans (hfr b j n19_1)
    refine lv_bipush (v := 100) hx hb dX10_liveOn_73 (by decide) ?_
    refine lv_irem hx hb dX10_liveOn_75 (by decide) ?_
    refine lv_topi (fun z24832 ez24832 => ?_)
    have rz24832 := rg_all z24832
    refine lv_aload_n hx hb dX10_liveOn_76 rfl (lv_at hl 0 rfl) ?_
    refine t_get (C := RX1) (T := TX1) (N := 20) X hT m0 g0 rfl rfl 5 (by decide) qw_1110 inlX1 rfl dX10_liveOn_77 (fun v24833 hv24833 ov24833 => ?_)
    obtain ⟨z24834, rfl, rz24834⟩ := okV_i ov24833
    refine lv_icmp_ge (tgt := 89) hx hb dX10_liveOn_80 (by decide) (fun c24835 => ?_) (fun c24835 => ?_)
    · have w24836 := cv_le (rfl : z24834.toInt = z24834.toInt) (rfl : z24832.toInt = z24832.toInt) c24835
      exact t_vret hQ X hT hfr (Nat.le_of_ble_eq_true rfl) (Nat.le_of_ble_eq_true rfl) dX10_liveOn_89
    · have w24837 := cv_nle (rfl : z24834.toInt = z24834.toInt) (rfl : z24832.toInt = z24832.toInt) c24835
      refine lv_aload_n hx hb dX10_liveOn_83 rfl (lv_at hl 0 rfl) ?_
      refine lv_aload_n hx hb dX10_liveOn_84 rfl (lv_at hl 1 rfl) ?_
      refine lv_iload_n hx hb dX10_liveOn_85 rfl (lv_at hl 2 rfl) ?_
      refine t_cSv (n := 3) (As := [.ref p0, .ref p1, .int p2]) (rest := []) X hT (kt74_X10_burn l G tag L F hT.2.2.2 p0 p1 p2 m0 g0 m1 g1 (by omega)) qw_1125 qw_1126 qw_32 qw_1127 ⟨by decide +kernel, by decide +kernel, by decide +kernel⟩ ⟨Nat.le_of_ble_eq_true rfl, Nat.le_of_ble_eq_true rfl⟩ hl rfl rfl (Nat.le_of_ble_eq_true rfl) dX10_liveOn_86 ⟨Nat.le_of_ble_eq_true rfl, Nat.le_of_ble_eq_true rfl⟩ (fun F H locs hT hz24838 => ?_)
      have yz24838 := hz24838
      have qz24828 := (yz24838 _ 6 ).trans qz24828
      have qz24829 := (yz24838 _ 4 ).trans qz24829
      have hv24833 := (yz24838 _ 5 ).trans hv24833
      have hfr : ∀ b j : Nat, (tag b ≠ 19 ∨ j ≠ 1) → fld F b j = fld Fo b j := fun b j n19_1 => (yz24838 b j ).trans (hfr b j n19_1)
      exact t_vret hQ X hT hfr (Nat.le_of_ble_eq_true rfl) (Nat.le_of_ble_eq_true rfl) dX10_liveOn_89
  refine lv_aload_n hx hb dX10_liveOn_0 rfl (lv_at hl 1 rfl) ?_
  refine t_get (C := RX7) (T := TX7) (N := 7) X hT m1 g1 rfl rfl 4 (by decide) qw_1106 inlX7 rfl dX10_liveOn_1 (fun v24839 hv24839 ov24839 => ?_)
  obtain ⟨b24840, rfl, mb24840, gb24840⟩ := okV_r ov24839
  have gb24840 : tag b24840 = 5 := tg_of gb24840
  refine lv_iload_n hx hb dX10_liveOn_4 rfl (lv_at hl 2 rfl) ?_
  refine lv_sipush (v := 999) hx hb dX10_liveOn_5 (by decide) ?_
  refine lv_aload_n hx hb dX10_liveOn_8 rfl (lv_at hl 1 rfl) ?_
  refine t_get (C := RX7) (T := TX7) (N := 7) X hT m1 g1 rfl rfl 4 (by decide) qw_1106 inlX7 rfl dX10_liveOn_9 (fun v24841 hv24841 ov24841 => ?_)
  obtain rfl : v24841 = .ref b24840 := hv24841.symm.trans hv24839
  refine lv_iload_n hx hb dX10_liveOn_12 rfl (lv_at hl 2 rfl) ?_
  refine t_ild X hT mb24840 gb24840 rfl (by omega) dX10_liveOn_13 (fun z24842 vz24842 rz24842 => ?_)
  have rz24842 : (-2147483648) ≤ z24842.toInt ∧ z24842.toInt ≤ 2147483647 := rz24842
  refine lv_aload_n hx hb dX10_liveOn_14 rfl (lv_at hl 1 rfl) ?_
  refine t_get (C := RX7) (T := TX7) (N := 7) X hT m1 g1 rfl rfl 3 (by decide) qw_1101 inlX7 rfl dX10_liveOn_15 (fun v24843 hv24843 ov24843 => ?_)
  obtain ⟨b24844, rfl, mb24844, gb24844⟩ := okV_r ov24843
  have gb24844 : tag b24844 = 5 := tg_of gb24844
  refine lv_iload_n hx hb dX10_liveOn_18 rfl (lv_at hl 2 rfl) ?_
  refine t_ild X hT mb24844 gb24844 rfl (by omega) dX10_liveOn_19 (fun z24845 vz24845 rz24845 => ?_)
  have rz24845 : (-2147483648) ≤ z24845.toInt ∧ z24845.toInt ≤ 2147483647 := rz24845
  refine lv_aload_n hx hb dX10_liveOn_20 rfl (lv_at hl 0 rfl) ?_
  refine t_get (C := RX1) (T := TX1) (N := 20) X hT m0 g0 rfl rfl 6 (by decide) qw_1107 inlX1 rfl dX10_liveOn_21 (fun v24846 hv24846 ov24846 => ?_)
  obtain ⟨z24847, rfl, rz24847⟩ := okV_i ov24846
  refine lv_imul hx hb dX10_liveOn_24 ?_
  refine lv_topi (fun z24848 ez24848 => ?_)
  have rz24848 := rg_all z24848
  refine lv_iadd hx hb dX10_liveOn_25 ?_
  refine lv_topi (fun z24849 ez24849 => ?_)
  have rz24849 := rg_all z24849
  refine t_mmin X hl qw_1108 qw_1018 qw_850 qw_1019 (Nat.le_of_ble_eq_true rfl) (Nat.le_of_ble_eq_true rfl) (Nat.le_of_ble_eq_true rfl) (Nat.le_of_ble_eq_true rfl) dX10_liveOn_26 (fun z24850 ez24850 => ?_)
  have hz24850 := mmin_e ez24850 (by decide : (999 : Int32).toInt = 999) (rfl : z24849.toInt = z24849.toInt)
  refine t_ist X hT mb24840 gb24840 rfl (by omega) (show (-2147483648) ≤ (z24850 : Int32).toInt ∧ (z24850 : Int32).toInt ≤ 2147483647 from (by omega)) dX10_liveOn_29 (fun F H locs hT v24851 h1v24851 h2v24851 => ?_)
  have hv24839 := (h2v24851 _ _).trans hv24839
  have hv24843 := (h2v24851 _ _).trans hv24843
  have hv24846 := (h2v24851 _ _).trans hv24846
  have hfr : ∀ b j : Nat, (tag b ≠ 19 ∨ j ≠ 1) → fld F b j = fld Fo b j := fun b j n19_1 => (h2v24851 b j).trans (hfr b j n19_1)
  refine lv_aload_n hx hb dX10_liveOn_30 rfl (lv_at hl 1 rfl) ?_
  refine t_cVi (n := 0) (C := RX7) (T := TX7) (N := 7) (As := []) (rest := []) X hT (kt72_X7_draw l G tag L F hT.2.2.2 p1 m1 g1) m1 g1 rfl rfl qw_1111 qw_1112 qw_1113 qw_22 qw_1114 ⟨rfl, by decide +kernel, by decide +kernel, by decide +kernel⟩ ⟨Nat.le_of_ble_eq_true rfl, Nat.le_of_ble_eq_true rfl⟩ hl rfl rfl (Nat.le_of_ble_eq_true rfl) dX10_liveOn_31 ⟨Nat.le_of_ble_eq_true rfl, Nat.le_of_ble_eq_true rfl⟩ (fun z24852 F H locs hT hz24852 => ?_)
  obtain ⟨hz24852, yz24852⟩ := hz24852
  have hv24839 := (yz24852 _ 4 (Or.inr (by decide))).trans hv24839
  have hv24843 := (yz24852 _ 3 (Or.inr (by decide))).trans hv24843
  have hv24846 := (yz24852 _ 6 (Or.inr (by decide))).trans hv24846
  have hfr : ∀ b j : Nat, (tag b ≠ 19 ∨ j ≠ 1) → fld F b j = fld Fo b j := fun b j n19_1 => (yz24852 b j n19_1).trans (hfr b j n19_1)
  refine lv_bipush (v := 100) hx hb dX10_liveOn_34 (by decide) ?_
  refine lv_irem hx hb dX10_liveOn_36 (by decide) ?_
  refine lv_topi (fun z24853 ez24853 => ?_)
  have rz24853 := rg_all z24853
  refine lv_aload_n hx hb dX10_liveOn_37 rfl (lv_at hl 0 rfl) ?_
  refine t_get (C := RX1) (T := TX1) (N := 20) X hT m0 g0 rfl rfl 4 (by decide) qw_1109 inlX1 rfl dX10_liveOn_38 (fun v24854 hv24854 ov24854 => ?_)
  obtain ⟨z24855, rfl, rz24855⟩ := okV_i ov24854
  refine lv_icmp_ge (tgt := 63) hx hb dX10_liveOn_41 (by decide) (fun c24856 => ?_) (fun c24856 => ?_)
  · have w24857 := cv_le (rfl : z24855.toInt = z24855.toInt) (rfl : z24853.toInt = z24853.toInt) c24856
    exact K63 z24847 z24855 _ _ _ _  hT hfr hv24846 hv24854 (lv_sub hl [0, 1, 2] rfl)
  · have w24858 := cv_nle (rfl : z24855.toInt = z24855.toInt) (rfl : z24853.toInt = z24853.toInt) c24856
    refine lv_aload_n hx hb dX10_liveOn_44 rfl (lv_at hl 1 rfl) ?_
    refine t_get (C := RX7) (T := TX7) (N := 7) X hT m1 g1 rfl rfl 3 (by decide) qw_1101 inlX7 rfl dX10_liveOn_45 (fun v24859 hv24859 ov24859 => ?_)
    obtain rfl : v24859 = .ref b24844 := hv24859.symm.trans hv24843
    refine lv_iload_n hx hb dX10_liveOn_48 rfl (lv_at hl 2 rfl) ?_
    refine lv_bipush (v := 99) hx hb dX10_liveOn_49 (by decide) ?_
    refine lv_aload_n hx hb dX10_liveOn_51 rfl (lv_at hl 1 rfl) ?_
    refine t_get (C := RX7) (T := TX7) (N := 7) X hT m1 g1 rfl rfl 3 (by decide) qw_1101 inlX7 rfl dX10_liveOn_52 (fun v24860 hv24860 ov24860 => ?_)
    obtain rfl : v24860 = .ref b24844 := hv24860.symm.trans hv24843
    refine lv_iload_n hx hb dX10_liveOn_55 rfl (lv_at hl 2 rfl) ?_
    refine t_ild X hT mb24844 gb24844 rfl (by omega) dX10_liveOn_56 (fun z24861 vz24861 rz24861 => ?_)
    have rz24861 : (-2147483648) ≤ z24861.toInt ∧ z24861.toInt ≤ 2147483647 := rz24861
    refine lv_iconst (v := 1) hx hb dX10_liveOn_57 (by decide) ?_
    refine lv_iadd hx hb dX10_liveOn_58 ?_
    refine lv_topi (fun z24862 ez24862 => ?_)
    have rz24862 := rg_all z24862
    refine t_mmin X hl qw_1108 qw_1018 qw_850 qw_1019 (Nat.le_of_ble_eq_true rfl) (Nat.le_of_ble_eq_true rfl) (Nat.le_of_ble_eq_true rfl) (Nat.le_of_ble_eq_true rfl) dX10_liveOn_59 (fun z24863 ez24863 => ?_)
    have hz24863 := mmin_e ez24863 (by decide : (99 : Int32).toInt = 99) (rfl : z24862.toInt = z24862.toInt)
    refine t_ist X hT mb24844 gb24844 rfl (by omega) (show (-2147483648) ≤ (z24863 : Int32).toInt ∧ (z24863 : Int32).toInt ≤ 2147483647 from (by omega)) dX10_liveOn_62 (fun F H locs hT v24864 h1v24864 h2v24864 => ?_)
    have hv24839 := (h2v24864 _ _).trans hv24839
    have hv24843 := (h2v24864 _ _).trans hv24843
    have hv24846 := (h2v24864 _ _).trans hv24846
    have hv24854 := (h2v24864 _ _).trans hv24854
    have hfr : ∀ b j : Nat, (tag b ≠ 19 ∨ j ≠ 1) → fld F b j = fld Fo b j := fun b j n19_1 => (h2v24864 b j).trans (hfr b j n19_1)
    exact K63 z24847 z24855 _ _ _ _  hT hfr hv24846 hv24854 (lv_sub hl [0, 1, 2] rfl)
set_option maxHeartbeats 4000000 in
set_option maxRecDepth 100000 in
theorem kt76_X5_begin (l : Launch) (G : KG) (tag : Nat → Nat) (L : List Nat) (Fo : Nat → va_E) (ho : okT G ttC tag L Fo) (p0 : Nat) (p1 : Int32) (m0 : p0 ∈ L) (g0 : tag p0 = 10) (h1 : 0 ≤ p1.toInt ∧ p1.toInt ≤ 4) : TMv l yX5_begin cX5_begin 3 { frames := 0, cells := 0, slots := 0, locals := 0 } G ttC tag L Fo [.ref p0, .int p1] (fun F1 => ∀ b j : Nat, fld F1 b j = fld Fo b j) := by
  refine t_bodyv (y := yX5_begin) (cd := cX5_begin) (mL := 3) (rm := { frames := 0, cells := 0, slots := 0, locals := 0 }) (av := [.ref p0, .int p1]) (by decide) (Nat.le_of_ble_eq_true rfl) ho ?_
  intro p e s m args below meth c ls A Q hQ X hT hl
  have hx := X.1.1
  have hb := X.1.2.1
  have hl : lv_has ls 3 [(0, .ref p0), (1, .int p1)] := hl
  obtain ⟨F, hFo⟩ : ∃ F : Nat → va_E, F = Fo := ⟨_, rfl⟩
  rw [← hFo] at hT
  have hfr : ∀ b j : Nat, fld F b j = fld Fo b j := by
    rw [hFo]
    intros
    rfl
  have K2 : ∀ (n : Nat) (z25019 : Int32) (F : Nat → va_E) (H : Heap) (locs : List Loc) (ls : Array Slot), (4 - z25019.toInt < (n : Int)) → (0 ≤ z25019.toInt ∧ z25019.toInt ≤ 4) → TH G ttC A s tag L F H locs → (∀ b j : Nat, fld F b j = fld Fo b j) → lv_has ls 3 [(0, .ref p0), (1, .int p1), (2, .int z25019)] → W p l e { frames := 0, cells := 0, slots := 0, locals := 0 } s m args below meth c H locs 0 0 Q (F0 m 2 ls []) := by
    intro n
    induction n with
    | zero =>
      intro z25019 F H locs ls hn rz25019 hT hfr hl
      exfalso
      omega
    | succ n ih2 =>
      intro z25019 F H locs ls hn rz25019 hT hfr hl
      refine lv_iload_n hx hb dX5_begin_2 rfl (lv_at hl 2 rfl) ?_
      refine lv_iload_n hx hb dX5_begin_3 rfl (lv_at hl 1 rfl) ?_
      refine lv_icmp_ge (tgt := 23) hx hb dX5_begin_4 (by decide) (fun c25020 => ?_) (fun c25020 => ?_)
      · have w25021 := cv_le (rfl : p1.toInt = p1.toInt) (rfl : z25019.toInt = z25019.toInt) c25020
        exact t_vret hQ X hT hfr (Nat.le_of_ble_eq_true rfl) (Nat.le_of_ble_eq_true rfl) dX5_begin_23
      · have w25022 := cv_nle (rfl : p1.toInt = p1.toInt) (rfl : z25019.toInt = z25019.toInt) c25020
        refine lv_iload_n hx hb dX5_begin_7 rfl (lv_at hl 2 rfl) ?_
        refine lv_aload_n hx hb dX5_begin_8 rfl (lv_at hl 0 rfl) ?_
        refine t_alen X hT m0 g0 rfl (by decide) dX5_begin_9 ?_
        refine lv_topi (fun z25023 ez25023 => ?_)
        obtain rfl : z25023 = 4 := ez25023.trans (by rfl)
        refine lv_icmp_ge (tgt := 23) hx hb dX5_begin_10 (by decide) (fun c25024 => ?_) (fun c25024 => ?_)
        · have w25025 := cv_le (by decide : (4 : Int32).toInt = 4) (rfl : z25019.toInt = z25019.toInt) c25024
          exfalso
          omega
        · have w25026 := cv_nle (by decide : (4 : Int32).toInt = 4) (rfl : z25019.toInt = z25019.toInt) c25024
          refine lv_aload_n hx hb dX5_begin_13 rfl (lv_at hl 0 rfl) ?_
          refine lv_iload_n hx hb dX5_begin_14 rfl (lv_at hl 2 rfl) ?_
          refine lv_iload_n hx hb dX5_begin_15 rfl (lv_at hl 2 rfl) ?_
          refine t_ist X hT m0 g0 rfl (by omega) (show 0 ≤ (z25019 : Int32).toInt ∧ (z25019 : Int32).toInt ≤ 3 from (by omega)) dX5_begin_16 (fun F H locs hT v25027 h1v25027 h2v25027 => ?_)
          have hfr : ∀ b j : Nat, fld F b j = fld Fo b j := fun b j  => (h2v25027 b j).trans (hfr b j )
          obtain ⟨z25028, ez25028⟩ : ∃ y : Int32, y = z25019 + 1 := ⟨_, rfl⟩
          have hz25028 : z25028.toInt = z25019.toInt + 1 := ar_add ez25028 rfl (by decide : (1 : Int32).toInt = 1) (by omega) (by omega)
          refine lv_iinc (v := z25028) (lv' := [(2, .int z25028), (0, .ref p0), (1, .int p1)]) hx hb dX5_begin_17 hl (k := 2) rfl (by rw [ez25028]; rfl) (by decide) rfl (fun ls hl => ?_)
          refine lv_goto (tgt := 2) hx hb dX5_begin_20 (by decide) ?_
          exact ih2 z25028 _ _ _ _ (by omega) (by omega) hT hfr  (lv_sub hl [1, 2, 0] rfl)
  refine lv_iconst (v := 0) hx hb dX5_begin_0 (by decide) ?_
  refine lv_istore_n (lv' := [(2, .int 0), (0, .ref p0), (1, .int p1)]) hx hb dX5_begin_1 rfl hl (by decide) rfl (fun ls hl => ?_)
  have kk25029 : (0 : Int32).toInt = 0 := by decide
  exact K2 5 0 _ _ _ _ (by omega) (by decide) hT hfr  (lv_sub hl [1, 2, 0] rfl)
set_option maxHeartbeats 4000000 in
set_option maxRecDepth 100000 in
theorem kt77_X7_copyFrom (l : Launch) (G : KG) (tag : Nat → Nat) (L : List Nat) (Fo : Nat → va_E) (ho : okT G ttC tag L Fo) (p0 : Nat) (p1 : Nat) (m0 : p0 ∈ L) (g0 : tag p0 = 19) (m1 : p1 ∈ L) (g1 : tag p1 = 19) : TMv l yX7_copyFrom cX7_copyFrom 2 { frames := 1, cells := 0, slots := 0, locals := 24 } G ttC tag L Fo [.ref p0, .ref p1] (fun F1 => ∀ b j : Nat, (tag b ≠ 19 ∨ j ≠ 0) → (tag b ≠ 19 ∨ j ≠ 1) → fld F1 b j = fld Fo b j) := by
  refine t_bodyv (y := yX7_copyFrom) (cd := cX7_copyFrom) (mL := 2) (rm := { frames := 1, cells := 0, slots := 0, locals := 24 }) (av := [.ref p0, .ref p1]) (by decide) (Nat.le_of_ble_eq_true rfl) ho ?_
  intro p e s m args below meth c ls A Q hQ X hT hl
  have hx := X.1.1
  have hb := X.1.2.1
  have hl : lv_has ls 2 [(0, .ref p0), (1, .ref p1)] := hl
  obtain ⟨F, hFo⟩ : ∃ F : Nat → va_E, F = Fo := ⟨_, rfl⟩
  rw [← hFo] at hT
  have hfr : ∀ b j : Nat, (tag b ≠ 19 ∨ j ≠ 0) → (tag b ≠ 19 ∨ j ≠ 1) → fld F b j = fld Fo b j := by
    rw [hFo]
    intros
    rfl
  refine lv_aload_n hx hb dX7_copyFrom_0 rfl (lv_at hl 0 rfl) ?_
  refine lv_aload_n hx hb dX7_copyFrom_1 rfl (lv_at hl 1 rfl) ?_
  refine t_get (C := RX7) (T := TX7) (N := 7) X hT m1 g1 rfl rfl 0 (by decide) qw_187 inlX7 rfl dX7_copyFrom_2 (fun v25381 hv25381 ov25381 => ?_)
  obtain ⟨z25382, rfl, rz25382⟩ := okV_i ov25381
  refine t_put (C := RX7) (T := TX7) (N := 7) (v := .int z25382) X hT m0 g0 rfl tyX7 tyX7_ok nmX7 rfl 0 (by decide) qw_187 inlX7 rfl (by first | rfl | decide) (by first | rfl | decide) rfl (⟨_, rfl, (by omega), (by omega)⟩) dX7_copyFrom_5 (fun F H locs hT v25383 h1v25383 h2v25383 => ?_)
  have hfr : ∀ b j : Nat, (tag b ≠ 19 ∨ j ≠ 0) → (tag b ≠ 19 ∨ j ≠ 1) → fld F b j = fld Fo b j := fun b j n19_0 n19_1 => (h1v25383 b j (fr_ne g0 n19_0)).trans (hfr b j n19_0 n19_1)
  refine lv_aload_n hx hb dX7_copyFrom_8 rfl (lv_at hl 0 rfl) ?_
  refine lv_aload_n hx hb dX7_copyFrom_9 rfl (lv_at hl 1 rfl) ?_
  refine t_get (C := RX7) (T := TX7) (N := 7) X hT m1 g1 rfl rfl 1 (by decide) qw_188 inlX7 rfl dX7_copyFrom_10 (fun v25384 hv25384 ov25384 => ?_)
  obtain ⟨z25385, rfl, rz25385⟩ := okV_i ov25384
  refine t_put (C := RX7) (T := TX7) (N := 7) (v := .int z25385) X hT m0 g0 rfl tyX7 tyX7_ok nmX7 rfl 1 (by decide) qw_188 inlX7 rfl (by first | rfl | decide) (by first | rfl | decide) rfl (⟨_, rfl, (by omega), (by omega)⟩) dX7_copyFrom_13 (fun F H locs hT v25386 h1v25386 h2v25386 => ?_)
  have v25383 := (h1v25386 _ _ (Or.inr (by decide))).trans v25383
  have hfr : ∀ b j : Nat, (tag b ≠ 19 ∨ j ≠ 0) → (tag b ≠ 19 ∨ j ≠ 1) → fld F b j = fld Fo b j := fun b j n19_0 n19_1 => (h1v25386 b j (fr_ne g0 n19_1)).trans (hfr b j n19_0 n19_1)
  refine lv_aload_n hx hb dX7_copyFrom_16 rfl (lv_at hl 1 rfl) ?_
  refine t_get (C := RX7) (T := TX7) (N := 7) X hT m1 g1 rfl rfl 2 (by decide) qw_62 inlX7 rfl dX7_copyFrom_17 (fun v25387 hv25387 ov25387 => ?_)
  obtain ⟨b25388, rfl, mb25388, gb25388⟩ := okV_r ov25387
  have gb25388 : tag b25388 = 8 := tg_of gb25388
  refine lv_iconst (v := 0) hx hb dX7_copyFrom_20 (by decide) ?_
  refine lv_aload_n hx hb dX7_copyFrom_21 rfl (lv_at hl 0 rfl) ?_
  refine t_get (C := RX7) (T := TX7) (N := 7) X hT m0 g0 rfl rfl 2 (by decide) qw_62 inlX7 rfl dX7_copyFrom_22 (fun v25389 hv25389 ov25389 => ?_)
  obtain ⟨b25390, rfl, mb25390, gb25390⟩ := okV_r ov25389
  have gb25390 : tag b25390 = 8 := tg_of gb25390
  refine lv_iconst (v := 0) hx hb dX7_copyFrom_25 (by decide) ?_
  refine lv_iconst (v := 4) hx hb dX7_copyFrom_26 (by decide) ?_
  refine t_copy X hT hl mb25388 gb25388 mb25390 gb25390 rfl rfl (by decide) (by decide) (by decide) (by decide) (by decide) (fun _ _ => ⟨by decide, by decide⟩) qw_453 qw_454 qw_455 qw_456 (Nat.le_of_ble_eq_true rfl) (Nat.le_of_ble_eq_true rfl) dX7_copyFrom_27 (fun F H locs hT h2v25391 => ?_)
  have v25383 := (h2v25391 _ _).trans v25383
  have v25386 := (h2v25391 _ _).trans v25386
  have hv25387 := (h2v25391 _ _).trans hv25387
  have hv25389 := (h2v25391 _ _).trans hv25389
  have hfr : ∀ b j : Nat, (tag b ≠ 19 ∨ j ≠ 0) → (tag b ≠ 19 ∨ j ≠ 1) → fld F b j = fld Fo b j := fun b j n19_0 n19_1 => (h2v25391 b j).trans (hfr b j n19_0 n19_1)
  refine lv_aload_n hx hb dX7_copyFrom_30 rfl (lv_at hl 1 rfl) ?_
  refine t_get (C := RX7) (T := TX7) (N := 7) X hT m1 g1 rfl rfl 3 (by decide) qw_63 inlX7 rfl dX7_copyFrom_31 (fun v25392 hv25392 ov25392 => ?_)
  obtain ⟨b25393, rfl, mb25393, gb25393⟩ := okV_r ov25392
  have gb25393 : tag b25393 = 5 := tg_of gb25393
  refine lv_iconst (v := 0) hx hb dX7_copyFrom_34 (by decide) ?_
  refine lv_aload_n hx hb dX7_copyFrom_35 rfl (lv_at hl 0 rfl) ?_
  refine t_get (C := RX7) (T := TX7) (N := 7) X hT m0 g0 rfl rfl 3 (by decide) qw_63 inlX7 rfl dX7_copyFrom_36 (fun v25394 hv25394 ov25394 => ?_)
  obtain ⟨b25395, rfl, mb25395, gb25395⟩ := okV_r ov25394
  have gb25395 : tag b25395 = 5 := tg_of gb25395
  refine lv_iconst (v := 0) hx hb dX7_copyFrom_39 (by decide) ?_
  refine lv_iconst (v := 4) hx hb dX7_copyFrom_40 (by decide) ?_
  refine t_copy X hT hl mb25393 gb25393 mb25395 gb25395 rfl rfl (by decide) (by decide) (by decide) (by decide) (by decide) (fun _ _ => ⟨by decide, by decide⟩) qw_453 qw_454 qw_455 qw_456 (Nat.le_of_ble_eq_true rfl) (Nat.le_of_ble_eq_true rfl) dX7_copyFrom_41 (fun F H locs hT h2v25396 => ?_)
  have v25383 := (h2v25396 _ _).trans v25383
  have v25386 := (h2v25396 _ _).trans v25386
  have hv25387 := (h2v25396 _ _).trans hv25387
  have hv25389 := (h2v25396 _ _).trans hv25389
  have hv25392 := (h2v25396 _ _).trans hv25392
  have hv25394 := (h2v25396 _ _).trans hv25394
  have hfr : ∀ b j : Nat, (tag b ≠ 19 ∨ j ≠ 0) → (tag b ≠ 19 ∨ j ≠ 1) → fld F b j = fld Fo b j := fun b j n19_0 n19_1 => (h2v25396 b j).trans (hfr b j n19_0 n19_1)
  refine lv_aload_n hx hb dX7_copyFrom_44 rfl (lv_at hl 1 rfl) ?_
  refine t_get (C := RX7) (T := TX7) (N := 7) X hT m1 g1 rfl rfl 4 (by decide) qw_64 inlX7 rfl dX7_copyFrom_45 (fun v25397 hv25397 ov25397 => ?_)
  obtain ⟨b25398, rfl, mb25398, gb25398⟩ := okV_r ov25397
  have gb25398 : tag b25398 = 5 := tg_of gb25398
  refine lv_iconst (v := 0) hx hb dX7_copyFrom_48 (by decide) ?_
  refine lv_aload_n hx hb dX7_copyFrom_49 rfl (lv_at hl 0 rfl) ?_
  refine t_get (C := RX7) (T := TX7) (N := 7) X hT m0 g0 rfl rfl 4 (by decide) qw_64 inlX7 rfl dX7_copyFrom_50 (fun v25399 hv25399 ov25399 => ?_)
  obtain ⟨b25400, rfl, mb25400, gb25400⟩ := okV_r ov25399
  have gb25400 : tag b25400 = 5 := tg_of gb25400
  refine lv_iconst (v := 0) hx hb dX7_copyFrom_53 (by decide) ?_
  refine lv_iconst (v := 4) hx hb dX7_copyFrom_54 (by decide) ?_
  refine t_copy X hT hl mb25398 gb25398 mb25400 gb25400 rfl rfl (by decide) (by decide) (by decide) (by decide) (by decide) (fun _ _ => ⟨by decide, by decide⟩) qw_453 qw_454 qw_455 qw_456 (Nat.le_of_ble_eq_true rfl) (Nat.le_of_ble_eq_true rfl) dX7_copyFrom_55 (fun F H locs hT h2v25401 => ?_)
  have v25383 := (h2v25401 _ _).trans v25383
  have v25386 := (h2v25401 _ _).trans v25386
  have hv25387 := (h2v25401 _ _).trans hv25387
  have hv25389 := (h2v25401 _ _).trans hv25389
  have hv25392 := (h2v25401 _ _).trans hv25392
  have hv25394 := (h2v25401 _ _).trans hv25394
  have hv25397 := (h2v25401 _ _).trans hv25397
  have hv25399 := (h2v25401 _ _).trans hv25399
  have hfr : ∀ b j : Nat, (tag b ≠ 19 ∨ j ≠ 0) → (tag b ≠ 19 ∨ j ≠ 1) → fld F b j = fld Fo b j := fun b j n19_0 n19_1 => (h2v25401 b j).trans (hfr b j n19_0 n19_1)
  refine lv_aload_n hx hb dX7_copyFrom_58 rfl (lv_at hl 1 rfl) ?_
  refine t_get (C := RX7) (T := TX7) (N := 7) X hT m1 g1 rfl rfl 5 (by decide) qw_65 inlX7 rfl dX7_copyFrom_59 (fun v25402 hv25402 ov25402 => ?_)
  obtain ⟨b25403, rfl, mb25403, gb25403⟩ := okV_r ov25402
  have gb25403 : tag b25403 = 7 := tg_of gb25403
  refine lv_iconst (v := 0) hx hb dX7_copyFrom_62 (by decide) ?_
  refine lv_aload_n hx hb dX7_copyFrom_63 rfl (lv_at hl 0 rfl) ?_
  refine t_get (C := RX7) (T := TX7) (N := 7) X hT m0 g0 rfl rfl 5 (by decide) qw_65 inlX7 rfl dX7_copyFrom_64 (fun v25404 hv25404 ov25404 => ?_)
  obtain ⟨b25405, rfl, mb25405, gb25405⟩ := okV_r ov25404
  have gb25405 : tag b25405 = 7 := tg_of gb25405
  refine lv_iconst (v := 0) hx hb dX7_copyFrom_67 (by decide) ?_
  refine lv_bipush (v := 6) hx hb dX7_copyFrom_68 (by decide) ?_
  refine t_copy X hT hl mb25403 gb25403 mb25405 gb25405 rfl rfl (by decide) (by decide) (by decide) (by decide) (by decide) (fun _ _ => ⟨by decide, by decide⟩) qw_453 qw_454 qw_455 qw_456 (Nat.le_of_ble_eq_true rfl) (Nat.le_of_ble_eq_true rfl) dX7_copyFrom_70 (fun F H locs hT h2v25406 => ?_)
  have v25383 := (h2v25406 _ _).trans v25383
  have v25386 := (h2v25406 _ _).trans v25386
  have hv25387 := (h2v25406 _ _).trans hv25387
  have hv25389 := (h2v25406 _ _).trans hv25389
  have hv25392 := (h2v25406 _ _).trans hv25392
  have hv25394 := (h2v25406 _ _).trans hv25394
  have hv25397 := (h2v25406 _ _).trans hv25397
  have hv25399 := (h2v25406 _ _).trans hv25399
  have hv25402 := (h2v25406 _ _).trans hv25402
  have hv25404 := (h2v25406 _ _).trans hv25404
  have hfr : ∀ b j : Nat, (tag b ≠ 19 ∨ j ≠ 0) → (tag b ≠ 19 ∨ j ≠ 1) → fld F b j = fld Fo b j := fun b j n19_0 n19_1 => (h2v25406 b j).trans (hfr b j n19_0 n19_1)
  refine lv_aload_n hx hb dX7_copyFrom_73 rfl (lv_at hl 1 rfl) ?_
  refine t_get (C := RX7) (T := TX7) (N := 7) X hT m1 g1 rfl rfl 6 (by decide) qw_66 inlX7 rfl dX7_copyFrom_74 (fun v25407 hv25407 ov25407 => ?_)
  obtain ⟨b25408, rfl, mb25408, gb25408⟩ := okV_r ov25407
  have gb25408 : tag b25408 = 9 := tg_of gb25408
  refine lv_iconst (v := 0) hx hb dX7_copyFrom_77 (by decide) ?_
  refine lv_aload_n hx hb dX7_copyFrom_78 rfl (lv_at hl 0 rfl) ?_
  refine t_get (C := RX7) (T := TX7) (N := 7) X hT m0 g0 rfl rfl 6 (by decide) qw_66 inlX7 rfl dX7_copyFrom_79 (fun v25409 hv25409 ov25409 => ?_)
  obtain ⟨b25410, rfl, mb25410, gb25410⟩ := okV_r ov25409
  have gb25410 : tag b25410 = 9 := tg_of gb25410
  refine lv_iconst (v := 0) hx hb dX7_copyFrom_82 (by decide) ?_
  refine lv_sipush (v := 192) hx hb dX7_copyFrom_83 (by decide) ?_
  refine t_copy X hT hl mb25408 gb25408 mb25410 gb25410 rfl rfl (by decide) (by decide) (by decide) (by decide) (by decide) (fun _ _ => ⟨by decide, by decide⟩) qw_453 qw_454 qw_455 qw_456 (Nat.le_of_ble_eq_true rfl) (Nat.le_of_ble_eq_true rfl) dX7_copyFrom_86 (fun F H locs hT h2v25411 => ?_)
  have v25383 := (h2v25411 _ _).trans v25383
  have v25386 := (h2v25411 _ _).trans v25386
  have hv25387 := (h2v25411 _ _).trans hv25387
  have hv25389 := (h2v25411 _ _).trans hv25389
  have hv25392 := (h2v25411 _ _).trans hv25392
  have hv25394 := (h2v25411 _ _).trans hv25394
  have hv25397 := (h2v25411 _ _).trans hv25397
  have hv25399 := (h2v25411 _ _).trans hv25399
  have hv25402 := (h2v25411 _ _).trans hv25402
  have hv25404 := (h2v25411 _ _).trans hv25404
  have hv25407 := (h2v25411 _ _).trans hv25407
  have hv25409 := (h2v25411 _ _).trans hv25409
  have hfr : ∀ b j : Nat, (tag b ≠ 19 ∨ j ≠ 0) → (tag b ≠ 19 ∨ j ≠ 1) → fld F b j = fld Fo b j := fun b j n19_0 n19_1 => (h2v25411 b j).trans (hfr b j n19_0 n19_1)
  exact t_vret hQ X hT hfr (Nat.le_of_ble_eq_true rfl) (Nat.le_of_ble_eq_true rfl) dX7_copyFrom_89
set_option maxHeartbeats 4000000 in
set_option maxRecDepth 100000 in
theorem kt78_X7_skinsOfAll (l : Launch) (G : KG) (tag : Nat → Nat) (L : List Nat) (F : Nat → va_E) (ho : okT G ttC tag L F) (p0 : Nat) (m0 : p0 ∈ L) (g0 : tag p0 = 19) : TMi l yX7_skinsOfAll cX7_skinsOfAll 3 (some .int) { frames := 0, cells := 0, slots := 0, locals := 0 } G ttC tag L F [.ref p0] (fun r F1 => F1 = F ∧ ((-2147483648) ≤ r.toInt ∧ r.toInt ≤ 2147483647)) := by
  refine t_bodyi (y := yX7_skinsOfAll) (cd := cX7_skinsOfAll) (mL := 3) (rt := (some .int)) (rm := { frames := 0, cells := 0, slots := 0, locals := 0 }) (av := [.ref p0]) (by decide) (Nat.le_of_ble_eq_true rfl) ho ?_
  intro p e s m args below meth c ls A Q hQ X hT hl
  have hx := X.1.1
  have hb := X.1.2.1
  have hl : lv_has ls 3 [(0, .ref p0)] := hl
  have K4 : ∀ (n : Nat) (z25654 : Int32) (z25655 : Int32) (H : Heap) (locs : List Loc) (ls : Array Slot), (4 - z25655.toInt < (n : Int)) → (0 ≤ z25655.toInt ∧ z25655.toInt ≤ 4) → TH G ttC A s tag L F H locs → lv_has ls 3 [(0, .ref p0), (1, .int z25654), (2, .int z25655)] → W p l e { frames := 0, cells := 0, slots := 0, locals := 0 } s m args below meth c H locs 0 0 Q (F0 m 4 ls []) := by
    intro n
    induction n with
    | zero =>
      intro z25654 z25655 H locs ls hn rz25655 hT hl
      have rz25654 := rg_all z25654
      exfalso
      omega
    | succ n ih4 =>
      intro z25654 z25655 H locs ls hn rz25655 hT hl
      have rz25654 := rg_all z25654
      refine lv_iload_n hx hb dX7_skinsOfAll_4 rfl (lv_at hl 2 rfl) ?_
      refine lv_iconst (v := 4) hx hb dX7_skinsOfAll_5 (by decide) ?_
      refine lv_icmp_ge (tgt := 24) hx hb dX7_skinsOfAll_6 (by decide) (fun c25656 => ?_) (fun c25656 => ?_)
      · have w25657 := cv_le (by decide : (4 : Int32).toInt = 4) (rfl : z25655.toInt = z25655.toInt) c25656
        refine lv_iload_n hx hb dX7_skinsOfAll_24 rfl (lv_at hl 1 rfl) ?_
        exact t_iret hQ X hT (⟨rfl, rg_all _⟩) (Nat.le_of_ble_eq_true rfl) (Nat.le_of_ble_eq_true rfl) dX7_skinsOfAll_25
      · have w25658 := cv_nle (by decide : (4 : Int32).toInt = 4) (rfl : z25655.toInt = z25655.toInt) c25656
        refine lv_iload_n hx hb dX7_skinsOfAll_9 rfl (lv_at hl 1 rfl) ?_
        refine lv_aload_n hx hb dX7_skinsOfAll_10 rfl (lv_at hl 0 rfl) ?_
        refine t_get (C := RX7) (T := TX7) (N := 7) X hT m0 g0 rfl rfl 2 (by decide) qw_62 inlX7 rfl dX7_skinsOfAll_11 (fun v25659 hv25659 ov25659 => ?_)
        obtain ⟨b25660, rfl, mb25660, gb25660⟩ := okV_r ov25659
        have gb25660 : tag b25660 = 8 := tg_of gb25660
        refine lv_iload_n hx hb dX7_skinsOfAll_14 rfl (lv_at hl 2 rfl) ?_
        refine t_ild X hT mb25660 gb25660 rfl (by omega) dX7_skinsOfAll_15 (fun z25661 vz25661 rz25661 => ?_)
        have rz25661 : 0 ≤ z25661.toInt ∧ z25661.toInt ≤ 6 := rz25661
        refine lv_iadd hx hb dX7_skinsOfAll_16 ?_
        refine lv_topi (fun z25662 ez25662 => ?_)
        have rz25662 := rg_all z25662
        refine lv_istore_n (lv' := [(1, .int z25662), (0, .ref p0), (2, .int z25655)]) hx hb dX7_skinsOfAll_17 rfl hl (by decide) rfl (fun ls hl => ?_)
        obtain ⟨z25663, ez25663⟩ : ∃ y : Int32, y = z25655 + 1 := ⟨_, rfl⟩
        have hz25663 : z25663.toInt = z25655.toInt + 1 := ar_add ez25663 rfl (by decide : (1 : Int32).toInt = 1) (by omega) (by omega)
        refine lv_iinc (v := z25663) (lv' := [(2, .int z25663), (1, .int z25662), (0, .ref p0)]) hx hb dX7_skinsOfAll_18 hl (k := 2) rfl (by rw [ez25663]; rfl) (by decide) rfl (fun ls hl => ?_)
        refine lv_goto (tgt := 4) hx hb dX7_skinsOfAll_21 (by decide) ?_
        exact ih4 z25662 z25663 _ _ _ (by omega) (by omega) hT  (lv_sub hl [2, 1, 0] rfl)
  refine lv_iconst (v := 0) hx hb dX7_skinsOfAll_0 (by decide) ?_
  refine lv_istore_n (lv' := [(1, .int 0), (0, .ref p0)]) hx hb dX7_skinsOfAll_1 rfl hl (by decide) rfl (fun ls hl => ?_)
  refine lv_iconst (v := 0) hx hb dX7_skinsOfAll_2 (by decide) ?_
  refine lv_istore_n (lv' := [(2, .int 0), (1, .int 0), (0, .ref p0)]) hx hb dX7_skinsOfAll_3 rfl hl (by decide) rfl (fun ls hl => ?_)
  have kk25664 : (0 : Int32).toInt = 0 := by decide
  have kk25665 : (0 : Int32).toInt = 0 := by decide
  exact K4 5 0 0 _ _ _ (by omega) (by decide) hT  (lv_sub hl [2, 1, 0] rfl)
set_option maxHeartbeats 4000000 in
set_option maxRecDepth 100000 in
theorem kt79_X10_liveOn (l : Launch) (G : KG) (tag : Nat → Nat) (L : List Nat) (Fo : Nat → va_E) (ho : okT G ttC tag L Fo) (p0 : Nat) (p1 : Nat) (p2 : Int32) (m0 : p0 ∈ L) (g0 : tag p0 = 18) (m1 : p1 ∈ L) (g1 : tag p1 = 19) (h2 : 0 ≤ p2.toInt ∧ p2.toInt ≤ 3) : TMv l yX10_liveOn cX10_liveOn 3 { frames := 4, cells := 0, slots := 0, locals := 93 } G ttC tag L Fo [.ref p0, .ref p1, .int p2] (fun F1 => ∀ b j : Nat, (tag b ≠ 19 ∨ j ≠ 1) → fld F1 b j = fld Fo b j) := by
  refine t_bodyv (y := yX10_liveOn) (cd := cX10_liveOn) (mL := 3) (rm := { frames := 4, cells := 0, slots := 0, locals := 93 }) (av := [.ref p0, .ref p1, .int p2]) (by decide) (Nat.le_of_ble_eq_true rfl) ho ?_
  intro p e s m args below meth c ls A Q hQ X hT hl
  have hx := X.1.1
  have hb := X.1.2.1
  have hl : lv_has ls 3 [(0, .ref p0), (1, .ref p1), (2, .int p2)] := hl
  obtain ⟨F, hFo⟩ : ∃ F : Nat → va_E, F = Fo := ⟨_, rfl⟩
  rw [← hFo] at hT
  have hfr : ∀ b j : Nat, (tag b ≠ 19 ∨ j ≠ 1) → fld F b j = fld Fo b j := by
    rw [hFo]
    intros
    rfl
  have K63 : ∀ (z26104 : Int32) (z26105 : Int32) (F : Nat → va_E) (H : Heap) (locs : List Loc) (ls : Array Slot), TH G ttC A s tag L F H locs → (∀ b j : Nat, (tag b ≠ 19 ∨ j ≠ 1) → fld F b j = fld Fo b j) → fld F p0 6 = .int z26104 → fld F p0 4 = .int z26105 → lv_has ls 3 [(0, .ref p0), (1, .ref p1), (2, .int p2)] → W p l e { frames := 4, cells := 0, slots := 0, locals := 93 } s m args below meth c H locs 0 0 Q (F0 m 63 ls []) := by
    intro z26104 z26105 F H locs ls hT hfr qz26104 qz26105 hl
    have rz26104 := rg_all z26104
    have rz26105 := rg_all z26105
    refine lv_aload_n hx hb dX10_liveOn_63 rfl (lv_at hl 0 rfl) ?_
    refine lv_aload_n hx hb dX10_liveOn_64 rfl (lv_at hl 1 rfl) ?_
    refine lv_iload_n hx hb dX10_liveOn_65 rfl (lv_at hl 2 rfl) ?_
    refine t_cSv (n := 3) (As := [.ref p0, .ref p1, .int p2]) (rest := []) X hT (kt73_X10_rotAll l G tag L F hT.2.2.2 p0 p1 p2 m0 g0 m1 g1 (by omega)) qw_1116 qw_1117 qw_32 qw_1118 ⟨by decide +kernel, by decide +kernel, by decide +kernel⟩ ⟨Nat.le_of_ble_eq_true rfl, Nat.le_of_ble_eq_true rfl⟩ hl rfl rfl (Nat.le_of_ble_eq_true rfl) dX10_liveOn_66 ⟨Nat.le_of_ble_eq_true rfl, Nat.le_of_ble_eq_true rfl⟩ (fun F H locs hT hz26106 => ?_)
    have yz26106 := hz26106
    have qz26104 := (yz26106 _ 6 ).trans qz26104
    have qz26105 := (yz26106 _ 4 ).trans qz26105
    have hfr : ∀ b j : Nat, (tag b ≠ 19 ∨ j ≠ 1) → fld F b j = fld Fo b j := fun b j n19_1 => (yz26106 b j ).trans (hfr b j n19_1)
    refine lv_aload_n hx hb dX10_liveOn_69 rfl (lv_at hl 1 rfl) ?_
    refine t_cVi (n := 0) (C := RX7) (T := TX7) (N := 7) (As := []) (rest := []) X hT (kt72_X7_draw l G tag L F hT.2.2.2 p1 m1 g1) m1 g1 rfl rfl qw_1111 qw_1112 qw_1113 qw_22 qw_1114 ⟨rfl, by decide +kernel, by decide +kernel, by decide +kernel⟩ ⟨Nat.le_of_ble_eq_true rfl, Nat.le_of_ble_eq_true rfl⟩ hl rfl rfl (Nat.le_of_ble_eq_true rfl) dX10_liveOn_70 ⟨Nat.le_of_ble_eq_true rfl, Nat.le_of_ble_eq_true rfl⟩ (fun z26107 F H locs hT hz26107 => ?_)
    obtain ⟨hz26107, yz26107⟩ := hz26107
    have qz26104 := (yz26107 _ 6 (Or.inr (by decide))).trans qz26104
    have qz26105 := (yz26107 _ 4 (Or.inr (by decide))).trans qz26105
    have hfr : ∀ b j : Nat, (tag b ≠ 19 ∨ j ≠ 1) → fld F b j = fld Fo b j := fun b j n19_1 => (yz26107 b j n19_1).trans (hfr b j n19_1)
    refine lv_bipush (v := 100) hx hb dX10_liveOn_73 (by decide) ?_
    refine lv_irem hx hb dX10_liveOn_75 (by decide) ?_
    refine lv_topi (fun z26108 ez26108 => ?_)
    have rz26108 := rg_all z26108
    refine lv_aload_n hx hb dX10_liveOn_76 rfl (lv_at hl 0 rfl) ?_
    refine t_get (C := RX1) (T := TX1) (N := 20) X hT m0 g0 rfl rfl 5 (by decide) qw_1110 inlX1 rfl dX10_liveOn_77 (fun v26109 hv26109 ov26109 => ?_)
    obtain ⟨z26110, rfl, rz26110⟩ := okV_i ov26109
    refine lv_icmp_ge (tgt := 89) hx hb dX10_liveOn_80 (by decide) (fun c26111 => ?_) (fun c26111 => ?_)
    · have w26112 := cv_le (rfl : z26110.toInt = z26110.toInt) (rfl : z26108.toInt = z26108.toInt) c26111
      exact t_vret hQ X hT hfr (Nat.le_of_ble_eq_true rfl) (Nat.le_of_ble_eq_true rfl) dX10_liveOn_89
    · have w26113 := cv_nle (rfl : z26110.toInt = z26110.toInt) (rfl : z26108.toInt = z26108.toInt) c26111
      refine lv_aload_n hx hb dX10_liveOn_83 rfl (lv_at hl 0 rfl) ?_
      refine lv_aload_n hx hb dX10_liveOn_84 rfl (lv_at hl 1 rfl) ?_
      refine lv_iload_n hx hb dX10_liveOn_85 rfl (lv_at hl 2 rfl) ?_
      refine t_cSv (n := 3) (As := [.ref p0, .ref p1, .int p2]) (rest := []) X hT (kt74_X10_burn l G tag L F hT.2.2.2 p0 p1 p2 m0 g0 m1 g1 (by omega)) qw_1125 qw_1126 qw_32 qw_1127 ⟨by decide +kernel, by decide +kernel, by decide +kernel⟩ ⟨Nat.le_of_ble_eq_true rfl, Nat.le_of_ble_eq_true rfl⟩ hl rfl rfl (Nat.le_of_ble_eq_true rfl) dX10_liveOn_86 ⟨Nat.le_of_ble_eq_true rfl, Nat.le_of_ble_eq_true rfl⟩ (fun F H locs hT hz26114 => ?_)
      have yz26114 := hz26114
      have qz26104 := (yz26114 _ 6 ).trans qz26104
      have qz26105 := (yz26114 _ 4 ).trans qz26105
      have hv26109 := (yz26114 _ 5 ).trans hv26109
      have hfr : ∀ b j : Nat, (tag b ≠ 19 ∨ j ≠ 1) → fld F b j = fld Fo b j := fun b j n19_1 => (yz26114 b j ).trans (hfr b j n19_1)
      exact t_vret hQ X hT hfr (Nat.le_of_ble_eq_true rfl) (Nat.le_of_ble_eq_true rfl) dX10_liveOn_89
  refine lv_aload_n hx hb dX10_liveOn_0 rfl (lv_at hl 1 rfl) ?_
  refine t_get (C := RX7) (T := TX7) (N := 7) X hT m1 g1 rfl rfl 4 (by decide) qw_1106 inlX7 rfl dX10_liveOn_1 (fun v26115 hv26115 ov26115 => ?_)
  obtain ⟨b26116, rfl, mb26116, gb26116⟩ := okV_r ov26115
  have gb26116 : tag b26116 = 5 := tg_of gb26116
  refine lv_iload_n hx hb dX10_liveOn_4 rfl (lv_at hl 2 rfl) ?_
  refine lv_sipush (v := 999) hx hb dX10_liveOn_5 (by decide) ?_
  refine lv_aload_n hx hb dX10_liveOn_8 rfl (lv_at hl 1 rfl) ?_
  refine t_get (C := RX7) (T := TX7) (N := 7) X hT m1 g1 rfl rfl 4 (by decide) qw_1106 inlX7 rfl dX10_liveOn_9 (fun v26117 hv26117 ov26117 => ?_)
  obtain rfl : v26117 = .ref b26116 := hv26117.symm.trans hv26115
  refine lv_iload_n hx hb dX10_liveOn_12 rfl (lv_at hl 2 rfl) ?_
  refine t_ild X hT mb26116 gb26116 rfl (by omega) dX10_liveOn_13 (fun z26118 vz26118 rz26118 => ?_)
  have rz26118 : (-2147483648) ≤ z26118.toInt ∧ z26118.toInt ≤ 2147483647 := rz26118
  refine lv_aload_n hx hb dX10_liveOn_14 rfl (lv_at hl 1 rfl) ?_
  refine t_get (C := RX7) (T := TX7) (N := 7) X hT m1 g1 rfl rfl 3 (by decide) qw_1101 inlX7 rfl dX10_liveOn_15 (fun v26119 hv26119 ov26119 => ?_)
  obtain ⟨b26120, rfl, mb26120, gb26120⟩ := okV_r ov26119
  have gb26120 : tag b26120 = 5 := tg_of gb26120
  refine lv_iload_n hx hb dX10_liveOn_18 rfl (lv_at hl 2 rfl) ?_
  refine t_ild X hT mb26120 gb26120 rfl (by omega) dX10_liveOn_19 (fun z26121 vz26121 rz26121 => ?_)
  have rz26121 : (-2147483648) ≤ z26121.toInt ∧ z26121.toInt ≤ 2147483647 := rz26121
  refine lv_aload_n hx hb dX10_liveOn_20 rfl (lv_at hl 0 rfl) ?_
  refine t_get (C := RX1) (T := TX1) (N := 20) X hT m0 g0 rfl rfl 6 (by decide) qw_1107 inlX1 rfl dX10_liveOn_21 (fun v26122 hv26122 ov26122 => ?_)
  obtain ⟨z26123, rfl, rz26123⟩ := okV_i ov26122
  refine lv_imul hx hb dX10_liveOn_24 ?_
  refine lv_topi (fun z26124 ez26124 => ?_)
  have rz26124 := rg_all z26124
  refine lv_iadd hx hb dX10_liveOn_25 ?_
  refine lv_topi (fun z26125 ez26125 => ?_)
  have rz26125 := rg_all z26125
  refine t_mmin X hl qw_1108 qw_1018 qw_850 qw_1019 (Nat.le_of_ble_eq_true rfl) (Nat.le_of_ble_eq_true rfl) (Nat.le_of_ble_eq_true rfl) (Nat.le_of_ble_eq_true rfl) dX10_liveOn_26 (fun z26126 ez26126 => ?_)
  have hz26126 := mmin_e ez26126 (by decide : (999 : Int32).toInt = 999) (rfl : z26125.toInt = z26125.toInt)
  refine t_ist X hT mb26116 gb26116 rfl (by omega) (show (-2147483648) ≤ (z26126 : Int32).toInt ∧ (z26126 : Int32).toInt ≤ 2147483647 from (by omega)) dX10_liveOn_29 (fun F H locs hT v26127 h1v26127 h2v26127 => ?_)
  have hv26115 := (h2v26127 _ _).trans hv26115
  have hv26119 := (h2v26127 _ _).trans hv26119
  have hv26122 := (h2v26127 _ _).trans hv26122
  have hfr : ∀ b j : Nat, (tag b ≠ 19 ∨ j ≠ 1) → fld F b j = fld Fo b j := fun b j n19_1 => (h2v26127 b j).trans (hfr b j n19_1)
  refine lv_aload_n hx hb dX10_liveOn_30 rfl (lv_at hl 1 rfl) ?_
  refine t_cVi (n := 0) (C := RX7) (T := TX7) (N := 7) (As := []) (rest := []) X hT (kt72_X7_draw l G tag L F hT.2.2.2 p1 m1 g1) m1 g1 rfl rfl qw_1111 qw_1112 qw_1113 qw_22 qw_1114 ⟨rfl, by decide +kernel, by decide +kernel, by decide +kernel⟩ ⟨Nat.le_of_ble_eq_true rfl, Nat.le_of_ble_eq_true rfl⟩ hl rfl rfl (Nat.le_of_ble_eq_true rfl) dX10_liveOn_31 ⟨Nat.le_of_ble_eq_true rfl, Nat.le_of_ble_eq_true rfl⟩ (fun z26128 F H locs hT hz26128 => ?_)
  obtain ⟨hz26128, yz26128⟩ := hz26128
  have hv26115 := (yz26128 _ 4 (Or.inr (by decide))).trans hv26115
  have hv26119 := (yz26128 _ 3 (Or.inr (by decide))).trans hv26119
  have hv26122 := (yz26128 _ 6 (Or.inr (by decide))).trans hv26122
  have hfr : ∀ b j : Nat, (tag b ≠ 19 ∨ j ≠ 1) → fld F b j = fld Fo b j := fun b j n19_1 => (yz26128 b j n19_1).trans (hfr b j n19_1)
  refine lv_bipush (v := 100) hx hb dX10_liveOn_34 (by decide) ?_
  refine lv_irem hx hb dX10_liveOn_36 (by decide) ?_
  refine lv_topi (fun z26129 ez26129 => ?_)
  have rz26129 := rg_all z26129
  refine lv_aload_n hx hb dX10_liveOn_37 rfl (lv_at hl 0 rfl) ?_
  refine t_get (C := RX1) (T := TX1) (N := 20) X hT m0 g0 rfl rfl 4 (by decide) qw_1109 inlX1 rfl dX10_liveOn_38 (fun v26130 hv26130 ov26130 => ?_)
  obtain ⟨z26131, rfl, rz26131⟩ := okV_i ov26130
  refine lv_icmp_ge (tgt := 63) hx hb dX10_liveOn_41 (by decide) (fun c26132 => ?_) (fun c26132 => ?_)
  · have w26133 := cv_le (rfl : z26131.toInt = z26131.toInt) (rfl : z26129.toInt = z26129.toInt) c26132
    exact K63 z26123 z26131 _ _ _ _  hT hfr hv26122 hv26130 (lv_sub hl [0, 1, 2] rfl)
  · have w26134 := cv_nle (rfl : z26131.toInt = z26131.toInt) (rfl : z26129.toInt = z26129.toInt) c26132
    refine lv_aload_n hx hb dX10_liveOn_44 rfl (lv_at hl 1 rfl) ?_
    refine t_get (C := RX7) (T := TX7) (N := 7) X hT m1 g1 rfl rfl 3 (by decide) qw_1101 inlX7 rfl dX10_liveOn_45 (fun v26135 hv26135 ov26135 => ?_)
    obtain rfl : v26135 = .ref b26120 := hv26135.symm.trans hv26119
    refine lv_iload_n hx hb dX10_liveOn_48 rfl (lv_at hl 2 rfl) ?_
    refine lv_bipush (v := 99) hx hb dX10_liveOn_49 (by decide) ?_
    refine lv_aload_n hx hb dX10_liveOn_51 rfl (lv_at hl 1 rfl) ?_
    refine t_get (C := RX7) (T := TX7) (N := 7) X hT m1 g1 rfl rfl 3 (by decide) qw_1101 inlX7 rfl dX10_liveOn_52 (fun v26136 hv26136 ov26136 => ?_)
    obtain rfl : v26136 = .ref b26120 := hv26136.symm.trans hv26119
    refine lv_iload_n hx hb dX10_liveOn_55 rfl (lv_at hl 2 rfl) ?_
    refine t_ild X hT mb26120 gb26120 rfl (by omega) dX10_liveOn_56 (fun z26137 vz26137 rz26137 => ?_)
    have rz26137 : (-2147483648) ≤ z26137.toInt ∧ z26137.toInt ≤ 2147483647 := rz26137
    refine lv_iconst (v := 1) hx hb dX10_liveOn_57 (by decide) ?_
    refine lv_iadd hx hb dX10_liveOn_58 ?_
    refine lv_topi (fun z26138 ez26138 => ?_)
    have rz26138 := rg_all z26138
    refine t_mmin X hl qw_1108 qw_1018 qw_850 qw_1019 (Nat.le_of_ble_eq_true rfl) (Nat.le_of_ble_eq_true rfl) (Nat.le_of_ble_eq_true rfl) (Nat.le_of_ble_eq_true rfl) dX10_liveOn_59 (fun z26139 ez26139 => ?_)
    have hz26139 := mmin_e ez26139 (by decide : (99 : Int32).toInt = 99) (rfl : z26138.toInt = z26138.toInt)
    refine t_ist X hT mb26120 gb26120 rfl (by omega) (show (-2147483648) ≤ (z26139 : Int32).toInt ∧ (z26139 : Int32).toInt ≤ 2147483647 from (by omega)) dX10_liveOn_62 (fun F H locs hT v26140 h1v26140 h2v26140 => ?_)
    have hv26115 := (h2v26140 _ _).trans hv26115
    have hv26119 := (h2v26140 _ _).trans hv26119
    have hv26122 := (h2v26140 _ _).trans hv26122
    have hv26130 := (h2v26140 _ _).trans hv26130
    have hfr : ∀ b j : Nat, (tag b ≠ 19 ∨ j ≠ 1) → fld F b j = fld Fo b j := fun b j n19_1 => (h2v26140 b j).trans (hfr b j n19_1)
    exact K63 z26123 z26131 _ _ _ _  hT hfr hv26122 hv26130 (lv_sub hl [0, 1, 2] rfl)
set_option maxHeartbeats 4000000 in
set_option maxRecDepth 100000 in
theorem kt80_X10_grow (l : Launch) (G : KG) (tag : Nat → Nat) (L : List Nat) (Fo : Nat → va_E) (ho : okT G ttC tag L Fo) (p0 : Nat) (p1 : Nat) (p2 : Int32) (m0 : p0 ∈ L) (g0 : tag p0 = 18) (m1 : p1 ∈ L) (g1 : tag p1 = 19) (h2 : 0 ≤ p2.toInt ∧ p2.toInt ≤ 3) : TMv l yX10_grow cX10_grow 6 { frames := 4, cells := 0, slots := 0, locals := 108 } G ttC tag L Fo [.ref p0, .ref p1, .int p2] (fun F1 => ∀ b j : Nat, fld F1 b j = fld Fo b j) := by
  refine t_bodyv (y := yX10_grow) (cd := cX10_grow) (mL := 6) (rm := { frames := 4, cells := 0, slots := 0, locals := 108 }) (av := [.ref p0, .ref p1, .int p2]) (by decide) (Nat.le_of_ble_eq_true rfl) ho ?_
  intro p e s m args below meth c ls A Q hQ X hT hl
  have hx := X.1.1
  have hb := X.1.2.1
  have hl : lv_has ls 6 [(0, .ref p0), (1, .ref p1), (2, .int p2)] := hl
  obtain ⟨F, hFo⟩ : ∃ F : Nat → va_E, F = Fo := ⟨_, rfl⟩
  rw [← hFo] at hT
  have hfr : ∀ b j : Nat, fld F b j = fld Fo b j := by
    rw [hFo]
    intros
    rfl
  refine lv_aload_n hx hb dX10_grow_0 rfl (lv_at hl 0 rfl) ?_
  refine t_get (C := RX1) (T := TX1) (N := 20) X hT m0 g0 rfl rfl 13 (by decide) qw_1131 inlX1 rfl dX10_grow_1 (fun v26483 hv26483 ov26483 => ?_)
  obtain ⟨b26484, rfl, mb26484, gb26484⟩ := okV_r ov26483
  have gb26484 : tag b26484 = 5 := tg_of gb26484
  refine lv_iload_n hx hb dX10_grow_4 rfl (lv_at hl 2 rfl) ?_
  refine t_ild X hT mb26484 gb26484 rfl (by omega) dX10_grow_5 (fun z26485 vz26485 rz26485 => ?_)
  have rz26485 : (-2147483648) ≤ z26485.toInt ∧ z26485.toInt ≤ 2147483647 := rz26485
  refine lv_istore_n (lv' := [(3, .int z26485), (0, .ref p0), (1, .ref p1), (2, .int p2)]) hx hb dX10_grow_6 rfl hl (by decide) rfl (fun ls hl => ?_)
  refine lv_aload_n hx hb dX10_grow_7 rfl (lv_at hl 1 rfl) ?_
  refine lv_aload_n hx hb dX10_grow_8 rfl (lv_at hl 2 rfl) ?_
  refine lv_iload_n hx hb dX10_grow_9 rfl (lv_at hl 3 rfl) ?_
  refine lv_iload_n hx hb dX10_grow_10 rfl (lv_at hl 0 rfl) ?_
  refine t_cSi (n := 4) (As := [.ref p0, .ref p1, .int p2, .int z26485]) (rest := []) X hT (kt65_X6_priceOf l G tag L F hT.2.2.2 p0 p1 p2 z26485 m0 g0 m1 g1 (by omega)) qw_1132 qw_960 qw_380 qw_961 ⟨by decide +kernel, by decide +kernel, by decide +kernel⟩ ⟨Nat.le_of_ble_eq_true rfl, Nat.le_of_ble_eq_true rfl⟩ hl rfl rfl (Nat.le_of_ble_eq_true rfl) dX10_grow_11 ⟨Nat.le_of_ble_eq_true rfl, Nat.le_of_ble_eq_true rfl⟩ (fun z26486 F9 H locs hT hz26486 => ?_)
  obtain ⟨fz26486, hz26486⟩ := hz26486
  rw [fz26486] at hT
  refine lv_istore (lv' := [(4, .int z26486), (3, .int z26485), (0, .ref p0), (1, .ref p1), (2, .int p2)]) hx hb dX10_grow_14 hl (by decide) rfl (fun ls hl => ?_)
  refine lv_iload hx hb dX10_grow_16 (lv_at hl 0 rfl) ?_
  refine lv_aload_n hx hb dX10_grow_18 rfl (lv_at hl 3 rfl) ?_
  refine t_get (C := RX7) (T := TX7) (N := 7) X hT m1 g1 rfl rfl 4 (by decide) qw_1106 inlX7 rfl dX10_grow_19 (fun v26487 hv26487 ov26487 => ?_)
  obtain ⟨b26488, rfl, mb26488, gb26488⟩ := okV_r ov26487
  have gb26488 : tag b26488 = 5 := tg_of gb26488
  refine lv_iload_n hx hb dX10_grow_22 rfl (lv_at hl 4 rfl) ?_
  refine t_ild X hT mb26488 gb26488 rfl (by omega) dX10_grow_23 (fun z26489 vz26489 rz26489 => ?_)
  have rz26489 : (-2147483648) ≤ z26489.toInt ∧ z26489.toInt ≤ 2147483647 := rz26489
  refine lv_icmp_gt (tgt := 36) hx hb dX10_grow_24 (by decide) (fun c26490 => ?_) (fun c26490 => ?_)
  · have w26491 := cv_lt (rfl : z26489.toInt = z26489.toInt) (rfl : z26486.toInt = z26486.toInt) c26490
    exact t_vret hQ X hT hfr (Nat.le_of_ble_eq_true rfl) (Nat.le_of_ble_eq_true rfl) dX10_grow_36
  · have w26492 := cv_nlt (rfl : z26489.toInt = z26489.toInt) (rfl : z26486.toInt = z26486.toInt) c26490
    refine lv_aload_n hx hb dX10_grow_27 rfl (lv_at hl 2 rfl) ?_
    refine lv_aload_n hx hb dX10_grow_28 rfl (lv_at hl 3 rfl) ?_
    refine lv_iload_n hx hb dX10_grow_29 rfl (lv_at hl 4 rfl) ?_
    refine t_cSi (n := 3) (As := [.ref p0, .ref p1, .int p2]) (rest := []) X hT (kt66_X6_isFit l G tag L F hT.2.2.2 p0 p1 p2 m0 g0 m1 g1 (by omega)) qw_1133 qw_403 qw_380 qw_404 ⟨by decide +kernel, by decide +kernel, by decide +kernel⟩ ⟨Nat.le_of_ble_eq_true rfl, Nat.le_of_ble_eq_true rfl⟩ hl rfl rfl (Nat.le_of_ble_eq_true rfl) dX10_grow_30 ⟨Nat.le_of_ble_eq_true rfl, Nat.le_of_ble_eq_true rfl⟩ (fun z26493 F9 H locs hT hz26493 => ?_)
    obtain ⟨fz26493, hz26493⟩ := hz26493
    rw [fz26493] at hT
    refine lv_if_ne (tgt := 37) hx hb dX10_grow_33 (by decide) (fun c26494 => ?_) (fun c26494 => ?_)
    · have w26495 := cv_ne (rfl : z26493.toInt = z26493.toInt) (by decide : (0 : Int32).toInt = 0) c26494
      refine lv_aload_n hx hb dX10_grow_37 rfl (lv_at hl 2 rfl) ?_
      refine lv_aload_n hx hb dX10_grow_38 rfl (lv_at hl 3 rfl) ?_
      refine lv_iload_n hx hb dX10_grow_39 rfl (lv_at hl 4 rfl) ?_
      refine t_cSi (n := 3) (As := [.ref p0, .ref p1, .int p2]) (rest := []) X hT (kt69_X6_lawDoor l G tag L F hT.2.2.2 p0 p1 p2 m0 g0 m1 g1 (by omega)) qw_1134 qw_914 qw_380 qw_915 ⟨by decide +kernel, by decide +kernel, by decide +kernel⟩ ⟨Nat.le_of_ble_eq_true rfl, Nat.le_of_ble_eq_true rfl⟩ hl rfl rfl (Nat.le_of_ble_eq_true rfl) dX10_grow_40 ⟨Nat.le_of_ble_eq_true rfl, Nat.le_of_ble_eq_true rfl⟩ (fun z26496 F9 H locs hT hz26496 => ?_)
      obtain ⟨fz26496, hz26496⟩ := hz26496
      rw [fz26496] at hT
      refine lv_istore (lv' := [(5, .int z26496), (4, .int z26486), (3, .int z26485), (0, .ref p0), (1, .ref p1), (2, .int p2)]) hx hb dX10_grow_43 hl (by decide) rfl (fun ls hl => ?_)
      refine lv_iload hx hb dX10_grow_45 (lv_at hl 0 rfl) ?_
      refine lv_bipush (v := (-2)) hx hb dX10_grow_47 (by decide) ?_
      refine lv_icmp_ne (tgt := 53) hx hb dX10_grow_49 (by decide) (fun c26497 => ?_) (fun c26497 => ?_)
      · have w26498 := cv_ne (rfl : z26496.toInt = z26496.toInt) (by decide : ((-2) : Int32).toInt = (-2)) c26497
        refine lv_aload_n hx hb dX10_grow_53 rfl (lv_at hl 4 rfl) ?_
        refine t_get (C := RX7) (T := TX7) (N := 7) X hT m1 g1 rfl rfl 4 (by decide) qw_1106 inlX7 rfl dX10_grow_54 (fun v26499 hv26499 ov26499 => ?_)
        obtain rfl : v26499 = .ref b26488 := hv26499.symm.trans hv26487
        refine lv_iload_n hx hb dX10_grow_57 rfl (lv_at hl 5 rfl) ?_
        refine lv_dup2_11 hx hb dX10_grow_58 rfl rfl ?_
        refine t_ild X hT mb26488 gb26488 rfl (by omega) dX10_grow_59 (fun z26500 vz26500 rz26500 => ?_)
        obtain rfl : z26489 = z26500 := vz26489.symm.trans vz26500
        refine lv_iload hx hb dX10_grow_60 (lv_at hl 1 rfl) ?_
        refine lv_isub hx hb dX10_grow_62 ?_
        refine lv_topi (fun z26501 ez26501 => ?_)
        have rz26501 := rg_all z26501
        refine t_ist X hT mb26488 gb26488 rfl (by omega) (show (-2147483648) ≤ (z26501 : Int32).toInt ∧ (z26501 : Int32).toInt ≤ 2147483647 from (by omega)) dX10_grow_63 (fun F H locs hT v26502 h1v26502 h2v26502 => ?_)
        have hv26483 := (h2v26502 _ _).trans hv26483
        have hv26487 := (h2v26502 _ _).trans hv26487
        have hfr : ∀ b j : Nat, fld F b j = fld Fo b j := fun b j  => (h2v26502 b j).trans (hfr b j )
        refine lv_aload_n hx hb dX10_grow_64 rfl (lv_at hl 4 rfl) ?_
        refine lv_iload_n hx hb dX10_grow_65 rfl (lv_at hl 5 rfl) ?_
        refine lv_iload_n hx hb dX10_grow_66 rfl (lv_at hl 2 rfl) ?_
        refine lv_iload hx hb dX10_grow_67 (lv_at hl 0 rfl) ?_
        refine lv_bipush (v := 100) hx hb dX10_grow_69 (by decide) ?_
        refine lv_idiv hx hb dX10_grow_71 (by decide) ?_
        refine lv_topi (fun z26503 ez26503 => ?_)
        have rz26503 := rg_all z26503
        refine lv_iload hx hb dX10_grow_72 (lv_at hl 0 rfl) ?_
        refine lv_bipush (v := 100) hx hb dX10_grow_74 (by decide) ?_
        refine lv_irem hx hb dX10_grow_76 (by decide) ?_
        refine lv_topi (fun z26504 ez26504 => ?_)
        have rz26504 := rg_all z26504
        refine lv_aload_n hx hb dX10_grow_77 rfl (lv_at hl 4 rfl) ?_
        refine t_get (C := RX7) (T := TX7) (N := 7) X hT m1 g1 rfl rfl 3 (by decide) qw_1101 inlX7 rfl dX10_grow_78 (fun v26505 hv26505 ov26505 => ?_)
        obtain ⟨b26506, rfl, mb26506, gb26506⟩ := okV_r ov26505
        have gb26506 : tag b26506 = 5 := tg_of gb26506
        refine lv_iload_n hx hb dX10_grow_81 rfl (lv_at hl 5 rfl) ?_
        refine t_ild X hT mb26506 gb26506 rfl (by omega) dX10_grow_82 (fun z26507 vz26507 rz26507 => ?_)
        have rz26507 : (-2147483648) ≤ z26507.toInt ∧ z26507.toInt ≤ 2147483647 := rz26507
        refine lv_bipush (v := 10) hx hb dX10_grow_83 (by decide) ?_
        refine lv_irem hx hb dX10_grow_85 (by decide) ?_
        refine lv_topi (fun z26508 ez26508 => ?_)
        have rz26508 := rg_all z26508
        refine lv_aload_n hx hb dX10_grow_86 rfl (lv_at hl 4 rfl) ?_
        refine t_get (C := RX7) (T := TX7) (N := 7) X hT m1 g1 rfl rfl 0 (by decide) qw_1102 inlX7 rfl dX10_grow_87 (fun v26509 hv26509 ov26509 => ?_)
        obtain ⟨z26510, rfl, rz26510⟩ := okV_i ov26509
        refine t_cVv (n := 6) (C := RX7) (T := TX7) (N := 7) (As := [.int p2, .int z26485, .int z26503, .int z26504, .int z26508, .int z26510]) (rest := []) X hT (kt70_X7_addSkin l G tag L F hT.2.2.2 p1 p2 z26485 z26503 z26504 z26508 z26510 m1 g1 (by omega)) m1 g1 rfl rfl qw_1135 qw_419 qw_420 qw_22 qw_421 ⟨rfl, by decide +kernel, by decide +kernel, by decide +kernel⟩ ⟨Nat.le_of_ble_eq_true rfl, Nat.le_of_ble_eq_true rfl⟩ hl rfl rfl (Nat.le_of_ble_eq_true rfl) dX10_grow_90 ⟨Nat.le_of_ble_eq_true rfl, Nat.le_of_ble_eq_true rfl⟩ (fun F H locs hT hz26511 => ?_)
        have yz26511 := hz26511
        have hv26483 := (yz26511 _ 13 ).trans hv26483
        have hv26487 := (yz26511 _ 4 ).trans hv26487
        have hv26505 := (yz26511 _ 3 ).trans hv26505
        have hv26509 := (yz26511 _ 0 ).trans hv26509
        have hfr : ∀ b j : Nat, fld F b j = fld Fo b j := fun b j  => (yz26511 b j ).trans (hfr b j )
        exact t_vret hQ X hT hfr (Nat.le_of_ble_eq_true rfl) (Nat.le_of_ble_eq_true rfl) dX10_grow_93
      · have w26512 := cv_eq (rfl : z26496.toInt = z26496.toInt) (by decide : ((-2) : Int32).toInt = (-2)) c26497
        exact t_vret hQ X hT hfr (Nat.le_of_ble_eq_true rfl) (Nat.le_of_ble_eq_true rfl) dX10_grow_52
    · have w26513 := cv_eq (rfl : z26493.toInt = z26493.toInt) (by decide : (0 : Int32).toInt = 0) c26494
      exact t_vret hQ X hT hfr (Nat.le_of_ble_eq_true rfl) (Nat.le_of_ble_eq_true rfl) dX10_grow_36
