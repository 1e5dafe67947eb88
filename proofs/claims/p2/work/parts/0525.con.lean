set_option maxHeartbeats 4000000 in
set_option maxRecDepth 100000 in
theorem kt205_X3_isLineAgain (l : Launch) (G : KG) (tag : Nat → Nat) (L : List Nat) (F : Nat → va_E) (ho : okT G ttC tag L F) (p0 : Nat) (p1 : Int32) (m0 : p0 ∈ L) (g0 : tag p0 = 25) : TMi l yX3_isLineAgain cX3_isLineAgain 2 (some .boolean) { frames := 0, cells := 0, slots := 0, locals := 0 } G ttC tag L F [.ref p0, .int p1] (fun r F1 => F1 = F ∧ (0 ≤ r.toInt ∧ r.toInt ≤ 1)) := by
  refine t_bodyi (y := yX3_isLineAgain) (cd := cX3_isLineAgain) (mL := 2) (rt := (some .boolean)) (rm := { frames := 0, cells := 0, slots := 0, locals := 0 }) (av := [.ref p0, .int p1]) (by decide) (Nat.le_of_ble_eq_true rfl) ho ?_
  intro p e s m args below meth c ls A Q hQ X hT hl
  have hx := X.1.1
  have hb := X.1.2.1
  have hl : lv_has ls 2 [(0, .ref p0), (1, .int p1)] := hl
  have rp1 := rg_all p1
  have K23 : ∀  (H : Heap) (locs : List Loc) (ls : Array Slot), (0 ≤ p1.toInt ∧ p1.toInt ≤ 1) → TH G ttC A s tag L F H locs → lv_has ls 2 [(0, .ref p0), (1, .int p1)] → W p l e { frames := 0, cells := 0, slots := 0, locals := 0 } s m args below meth c H locs 0 0 Q (F0 m 23 ls []) := by
    intro H locs ls r9s71850 hT hl
    refine lv_iconst (v := 1) hx hb dX3_isLineAgain_23 (by decide) ?_
    refine lv_goto (tgt := 28) hx hb dX3_isLineAgain_24 (by decide) ?_
    exact t_zret hQ X hT (by decide) (⟨rfl, (by decide)⟩) (Nat.le_of_ble_eq_true rfl) (Nat.le_of_ble_eq_true rfl) dX3_isLineAgain_28
  have K11 : ∀  (H : Heap) (locs : List Loc) (ls : Array Slot), TH G ttC A s tag L F H locs → lv_has ls 2 [(0, .ref p0), (1, .int p1)] → W p l e { frames := 0, cells := 0, slots := 0, locals := 0 } s m args below meth c H locs 0 0 Q (F0 m 11 ls []) := by
    intro H locs ls hT hl
    refine lv_iload_n hx hb dX3_isLineAgain_11 rfl (lv_at hl 1 rfl) ?_
    refine lv_iconst (v := 1) hx hb dX3_isLineAgain_12 (by decide) ?_
    refine lv_icmp_ne (tgt := 27) hx hb dX3_isLineAgain_13 (by decide) (fun c71851 => ?_) (fun c71851 => ?_)
    · have w71852 := cv_ne (rfl : p1.toInt = p1.toInt) (by decide : (1 : Int32).toInt = 1) c71851
      refine lv_iconst (v := 0) hx hb dX3_isLineAgain_27 (by decide) ?_
      exact t_zret hQ X hT (by decide) (⟨rfl, (by decide)⟩) (Nat.le_of_ble_eq_true rfl) (Nat.le_of_ble_eq_true rfl) dX3_isLineAgain_28
    · have w71853 := cv_eq (rfl : p1.toInt = p1.toInt) (by decide : (1 : Int32).toInt = 1) c71851
      refine lv_aload_n hx hb dX3_isLineAgain_16 rfl (lv_at hl 0 rfl) ?_
      refine t_get (C := RX3) (T := TX3) (N := 13) X hT m0 g0 rfl rfl 6 (by decide) qw_166 inlX3 rfl dX3_isLineAgain_17 (fun v71854 hv71854 ov71854 => ?_)
      obtain ⟨z71855, rfl, rz71855⟩ := okV_i ov71854
      refine lv_if_eq (tgt := 27) hx hb dX3_isLineAgain_20 (by decide) (fun c71856 => ?_) (fun c71856 => ?_)
      · have w71857 := cv_eq (rfl : z71855.toInt = z71855.toInt) (by decide : (0 : Int32).toInt = 0) c71856
        refine lv_iconst (v := 0) hx hb dX3_isLineAgain_27 (by decide) ?_
        exact t_zret hQ X hT (by decide) (⟨rfl, (by decide)⟩) (Nat.le_of_ble_eq_true rfl) (Nat.le_of_ble_eq_true rfl) dX3_isLineAgain_28
      · have w71858 := cv_ne (rfl : z71855.toInt = z71855.toInt) (by decide : (0 : Int32).toInt = 0) c71856
        exact K23  _ _ _ (by omega) hT  (lv_sub hl [0, 1] rfl)
  refine lv_iload_n hx hb dX3_isLineAgain_0 rfl (lv_at hl 1 rfl) ?_
  refine lv_if_ne (tgt := 11) hx hb dX3_isLineAgain_1 (by decide) (fun c71859 => ?_) (fun c71859 => ?_)
  · have w71860 := cv_ne (rfl : p1.toInt = p1.toInt) (by decide : (0 : Int32).toInt = 0) c71859
    exact K11  _ _ _  hT  (lv_sub hl [0, 1] rfl)
  · have w71861 := cv_eq (rfl : p1.toInt = p1.toInt) (by decide : (0 : Int32).toInt = 0) c71859
    refine lv_aload_n hx hb dX3_isLineAgain_4 rfl (lv_at hl 0 rfl) ?_
    refine t_get (C := RX3) (T := TX3) (N := 13) X hT m0 g0 rfl rfl 5 (by decide) qw_165 inlX3 rfl dX3_isLineAgain_5 (fun v71862 hv71862 ov71862 => ?_)
    obtain ⟨z71863, rfl, rz71863⟩ := okV_i ov71862
    refine lv_if_ne (tgt := 23) hx hb dX3_isLineAgain_8 (by decide) (fun c71864 => ?_) (fun c71864 => ?_)
    · have w71865 := cv_ne (rfl : z71863.toInt = z71863.toInt) (by decide : (0 : Int32).toInt = 0) c71864
      exact K23  _ _ _ (by omega) hT  (lv_sub hl [0, 1] rfl)
    · have w71866 := cv_eq (rfl : z71863.toInt = z71863.toInt) (by decide : (0 : Int32).toInt = 0) c71864
      exact K11  _ _ _  hT  (lv_sub hl [0, 1] rfl)
set_option maxHeartbeats 4000000 in
set_option maxRecDepth 100000 in
theorem kt206_X3_isLineTooMany (l : Launch) (G : KG) (tag : Nat → Nat) (L : List Nat) (F : Nat → va_E) (ho : okT G ttC tag L F) (p0 : Nat) (p1 : Int32) (x0 : Nat) (x1 : Nat) (x2 : Nat) (x3 : Nat) (m0 : p0 ∈ L) (g0 : tag p0 = 25) (mx0 : x0 ∈ L) (gx0 : tag x0 = 24) (pf0 : fld F p0 0 = .ref x0) (mx1 : x1 ∈ L) (gx1 : tag x1 = 18) (pf1 : fld F p0 1 = .ref x1) (mx2 : x2 ∈ L) (gx2 : tag x2 = 19) (pf2 : fld F p0 2 = .ref x2) (mx3 : x3 ∈ L) (gx3 : tag x3 = 1) (pf3 : fld F x0 0 = .ref x3) : TMi l yX3_isLineTooMany cX3_isLineTooMany 2 (some .boolean) { frames := 0, cells := 0, slots := 0, locals := 0 } G ttC tag L F [.ref p0, .int p1] (fun r F1 => F1 = F ∧ (0 ≤ r.toInt ∧ r.toInt ≤ 1)) := by
  refine t_bodyi (y := yX3_isLineTooMany) (cd := cX3_isLineTooMany) (mL := 2) (rt := (some .boolean)) (rm := { frames := 0, cells := 0, slots := 0, locals := 0 }) (av := [.ref p0, .int p1]) (by decide) (Nat.le_of_ble_eq_true rfl) ho ?_
  intro p e s m args below meth c ls A Q hQ X hT hl
  have hx := X.1.1
  have hb := X.1.2.1
  have hl : lv_has ls 2 [(0, .ref p0), (1, .int p1)] := hl
  have rp1 := rg_all p1
  refine lv_iload_n hx hb dX3_isLineTooMany_0 rfl (lv_at hl 1 rfl) ?_
  by_cases c72475 : p1 = 2
  · have w72476 := cv_eq (rfl : p1.toInt = p1.toInt) (by decide : (2 : Int32).toInt = 2) c72475
    refine lv_tableIn (off := 43) (tgt := 44) hx hb dX3_isLineTooMany_1 (by rw [c72475]; decide) (by rw [c72475]; decide) (by rw [c72475]; decide) (by decide) ?_
    refine lv_aload_n hx hb dX3_isLineTooMany_44 rfl (lv_at hl 0 rfl) ?_
    refine t_get (C := RX3) (T := TX3) (N := 13) X hT m0 g0 rfl rfl 7 (by decide) qw_167 inlX3 rfl dX3_isLineTooMany_45 (fun v72477 hv72477 ov72477 => ?_)
    obtain ⟨z72478, rfl, rz72478⟩ := okV_i ov72477
    refine lv_bipush (v := 10) hx hb dX3_isLineTooMany_48 (by decide) ?_
    refine lv_icmp_lt (tgt := 57) hx hb dX3_isLineTooMany_50 (by decide) (fun c72479 => ?_) (fun c72479 => ?_)
    · have w72480 := cv_lt (rfl : z72478.toInt = z72478.toInt) (by decide : (10 : Int32).toInt = 10) c72479
      refine lv_iconst (v := 0) hx hb dX3_isLineTooMany_57 (by decide) ?_
      exact t_zret hQ X hT (by decide) (⟨rfl, (by decide)⟩) (Nat.le_of_ble_eq_true rfl) (Nat.le_of_ble_eq_true rfl) dX3_isLineTooMany_58
    · have w72481 := cv_nlt (rfl : z72478.toInt = z72478.toInt) (by decide : (10 : Int32).toInt = 10) c72479
      refine lv_iconst (v := 1) hx hb dX3_isLineTooMany_53 (by decide) ?_
      refine lv_goto (tgt := 58) hx hb dX3_isLineTooMany_54 (by decide) ?_
      exact t_zret hQ X hT (by decide) (⟨rfl, (by decide)⟩) (Nat.le_of_ble_eq_true rfl) (Nat.le_of_ble_eq_true rfl) dX3_isLineTooMany_58
  have w72482 := cv_ne (rfl : p1.toInt = p1.toInt) (by decide : (2 : Int32).toInt = 2) c72475
  by_cases c72483 : p1 = 3
  · have w72484 := cv_eq (rfl : p1.toInt = p1.toInt) (by decide : (3 : Int32).toInt = 3) c72483
    refine lv_tableIn (off := 58) (tgt := 59) hx hb dX3_isLineTooMany_1 (by rw [c72483]; decide) (by rw [c72483]; decide) (by rw [c72483]; decide) (by decide) ?_
    refine lv_aload_n hx hb dX3_isLineTooMany_59 rfl (lv_at hl 0 rfl) ?_
    refine t_get (C := RX3) (T := TX3) (N := 13) X hT m0 g0 rfl rfl 1 (by decide) qw_161 inlX3 rfl dX3_isLineTooMany_60 (fun v72485 hv72485 ov72485 => ?_)
    obtain rfl : v72485 = .ref x1 := hv72485.symm.trans pf1
    refine t_get (C := RX1) (T := TX1) (N := 20) X hT mx1 gx1 rfl rfl 8 (by decide) qw_171 inlX1 rfl dX3_isLineTooMany_63 (fun v72486 hv72486 ov72486 => ?_)
    obtain ⟨z72487, rfl, rz72487⟩ := okV_i ov72486
    refine lv_iconst (v := 4) hx hb dX3_isLineTooMany_66 (by decide) ?_
    refine lv_icmp_lt (tgt := 74) hx hb dX3_isLineTooMany_67 (by decide) (fun c72488 => ?_) (fun c72488 => ?_)
    · have w72489 := cv_lt (rfl : z72487.toInt = z72487.toInt) (by decide : (4 : Int32).toInt = 4) c72488
      refine lv_iconst (v := 0) hx hb dX3_isLineTooMany_74 (by decide) ?_
      exact t_zret hQ X hT (by decide) (⟨rfl, (by decide)⟩) (Nat.le_of_ble_eq_true rfl) (Nat.le_of_ble_eq_true rfl) dX3_isLineTooMany_75
    · have w72490 := cv_nlt (rfl : z72487.toInt = z72487.toInt) (by decide : (4 : Int32).toInt = 4) c72488
      refine lv_iconst (v := 1) hx hb dX3_isLineTooMany_70 (by decide) ?_
      refine lv_goto (tgt := 75) hx hb dX3_isLineTooMany_71 (by decide) ?_
      exact t_zret hQ X hT (by decide) (⟨rfl, (by decide)⟩) (Nat.le_of_ble_eq_true rfl) (Nat.le_of_ble_eq_true rfl) dX3_isLineTooMany_75
  have w72491 := cv_ne (rfl : p1.toInt = p1.toInt) (by decide : (3 : Int32).toInt = 3) c72483
  by_cases c72492 : p1 = 4
  · have w72493 := cv_eq (rfl : p1.toInt = p1.toInt) (by decide : (4 : Int32).toInt = 4) c72492
    refine lv_tableIn (off := 75) (tgt := 76) hx hb dX3_isLineTooMany_1 (by rw [c72492]; decide) (by rw [c72492]; decide) (by rw [c72492]; decide) (by decide) ?_
    refine lv_aload_n hx hb dX3_isLineTooMany_76 rfl (lv_at hl 0 rfl) ?_
    refine t_get (C := RX3) (T := TX3) (N := 13) X hT m0 g0 rfl rfl 1 (by decide) qw_161 inlX3 rfl dX3_isLineTooMany_77 (fun v72494 hv72494 ov72494 => ?_)
    obtain rfl : v72494 = .ref x1 := hv72494.symm.trans pf1
    refine t_get (C := RX1) (T := TX1) (N := 20) X hT mx1 gx1 rfl rfl 10 (by decide) qw_172 inlX1 rfl dX3_isLineTooMany_80 (fun v72495 hv72495 ov72495 => ?_)
    obtain ⟨z72496, rfl, rz72496⟩ := okV_i ov72495
    refine lv_iconst (v := 4) hx hb dX3_isLineTooMany_83 (by decide) ?_
    refine lv_icmp_lt (tgt := 91) hx hb dX3_isLineTooMany_84 (by decide) (fun c72497 => ?_) (fun c72497 => ?_)
    · have w72498 := cv_lt (rfl : z72496.toInt = z72496.toInt) (by decide : (4 : Int32).toInt = 4) c72497
      refine lv_iconst (v := 0) hx hb dX3_isLineTooMany_91 (by decide) ?_
      exact t_zret hQ X hT (by decide) (⟨rfl, (by decide)⟩) (Nat.le_of_ble_eq_true rfl) (Nat.le_of_ble_eq_true rfl) dX3_isLineTooMany_92
    · have w72499 := cv_nlt (rfl : z72496.toInt = z72496.toInt) (by decide : (4 : Int32).toInt = 4) c72497
      refine lv_iconst (v := 1) hx hb dX3_isLineTooMany_87 (by decide) ?_
      refine lv_goto (tgt := 92) hx hb dX3_isLineTooMany_88 (by decide) ?_
      exact t_zret hQ X hT (by decide) (⟨rfl, (by decide)⟩) (Nat.le_of_ble_eq_true rfl) (Nat.le_of_ble_eq_true rfl) dX3_isLineTooMany_92
  have w72500 := cv_ne (rfl : p1.toInt = p1.toInt) (by decide : (4 : Int32).toInt = 4) c72492
  by_cases c72501 : p1 = 5
  · have w72502 := cv_eq (rfl : p1.toInt = p1.toInt) (by decide : (5 : Int32).toInt = 5) c72501
    refine lv_tableIn (off := 143) (tgt := 144) hx hb dX3_isLineTooMany_1 (by rw [c72501]; decide) (by rw [c72501]; decide) (by rw [c72501]; decide) (by decide) ?_
    refine lv_iconst (v := 0) hx hb dX3_isLineTooMany_144 (by decide) ?_
    exact t_zret hQ X hT (by decide) (⟨rfl, (by decide)⟩) (Nat.le_of_ble_eq_true rfl) (Nat.le_of_ble_eq_true rfl) dX3_isLineTooMany_145
  have w72503 := cv_ne (rfl : p1.toInt = p1.toInt) (by decide : (5 : Int32).toInt = 5) c72501
  by_cases c72504 : p1 = 6
  · have w72505 := cv_eq (rfl : p1.toInt = p1.toInt) (by decide : (6 : Int32).toInt = 6) c72504
    refine lv_tableIn (off := 92) (tgt := 93) hx hb dX3_isLineTooMany_1 (by rw [c72504]; decide) (by rw [c72504]; decide) (by rw [c72504]; decide) (by decide) ?_
    refine lv_aload_n hx hb dX3_isLineTooMany_93 rfl (lv_at hl 0 rfl) ?_
    refine t_get (C := RX3) (T := TX3) (N := 13) X hT m0 g0 rfl rfl 1 (by decide) qw_161 inlX3 rfl dX3_isLineTooMany_94 (fun v72506 hv72506 ov72506 => ?_)
    obtain rfl : v72506 = .ref x1 := hv72506.symm.trans pf1
    refine t_get (C := RX1) (T := TX1) (N := 20) X hT mx1 gx1 rfl rfl 14 (by decide) qw_303 inlX1 rfl dX3_isLineTooMany_97 (fun v72507 hv72507 ov72507 => ?_)
    obtain ⟨z72508, rfl, rz72508⟩ := okV_i ov72507
    refine lv_bipush (v := 6) hx hb dX3_isLineTooMany_100 (by decide) ?_
    refine lv_icmp_lt (tgt := 109) hx hb dX3_isLineTooMany_102 (by decide) (fun c72509 => ?_) (fun c72509 => ?_)
    · have w72510 := cv_lt (rfl : z72508.toInt = z72508.toInt) (by decide : (6 : Int32).toInt = 6) c72509
      refine lv_iconst (v := 0) hx hb dX3_isLineTooMany_109 (by decide) ?_
      exact t_zret hQ X hT (by decide) (⟨rfl, (by decide)⟩) (Nat.le_of_ble_eq_true rfl) (Nat.le_of_ble_eq_true rfl) dX3_isLineTooMany_110
    · have w72511 := cv_nlt (rfl : z72508.toInt = z72508.toInt) (by decide : (6 : Int32).toInt = 6) c72509
      refine lv_iconst (v := 1) hx hb dX3_isLineTooMany_105 (by decide) ?_
      refine lv_goto (tgt := 110) hx hb dX3_isLineTooMany_106 (by decide) ?_
      exact t_zret hQ X hT (by decide) (⟨rfl, (by decide)⟩) (Nat.le_of_ble_eq_true rfl) (Nat.le_of_ble_eq_true rfl) dX3_isLineTooMany_110
  have w72512 := cv_ne (rfl : p1.toInt = p1.toInt) (by decide : (6 : Int32).toInt = 6) c72504
  by_cases c72513 : p1 = 7
  · have w72514 := cv_eq (rfl : p1.toInt = p1.toInt) (by decide : (7 : Int32).toInt = 7) c72513
    refine lv_tableIn (off := 110) (tgt := 111) hx hb dX3_isLineTooMany_1 (by rw [c72513]; decide) (by rw [c72513]; decide) (by rw [c72513]; decide) (by decide) ?_
    refine lv_aload_n hx hb dX3_isLineTooMany_111 rfl (lv_at hl 0 rfl) ?_
    refine t_get (C := RX3) (T := TX3) (N := 13) X hT m0 g0 rfl rfl 1 (by decide) qw_161 inlX3 rfl dX3_isLineTooMany_112 (fun v72515 hv72515 ov72515 => ?_)
    obtain rfl : v72515 = .ref x1 := hv72515.symm.trans pf1
    refine t_get (C := RX1) (T := TX1) (N := 20) X hT mx1 gx1 rfl rfl 16 (by decide) qw_304 inlX1 rfl dX3_isLineTooMany_115 (fun v72516 hv72516 ov72516 => ?_)
    obtain ⟨z72517, rfl, rz72517⟩ := okV_i ov72516
    refine lv_bipush (v := 6) hx hb dX3_isLineTooMany_118 (by decide) ?_
    refine lv_icmp_lt (tgt := 127) hx hb dX3_isLineTooMany_120 (by decide) (fun c72518 => ?_) (fun c72518 => ?_)
    · have w72519 := cv_lt (rfl : z72517.toInt = z72517.toInt) (by decide : (6 : Int32).toInt = 6) c72518
      refine lv_iconst (v := 0) hx hb dX3_isLineTooMany_127 (by decide) ?_
      exact t_zret hQ X hT (by decide) (⟨rfl, (by decide)⟩) (Nat.le_of_ble_eq_true rfl) (Nat.le_of_ble_eq_true rfl) dX3_isLineTooMany_128
    · have w72520 := cv_nlt (rfl : z72517.toInt = z72517.toInt) (by decide : (6 : Int32).toInt = 6) c72518
      refine lv_iconst (v := 1) hx hb dX3_isLineTooMany_123 (by decide) ?_
      refine lv_goto (tgt := 128) hx hb dX3_isLineTooMany_124 (by decide) ?_
      exact t_zret hQ X hT (by decide) (⟨rfl, (by decide)⟩) (Nat.le_of_ble_eq_true rfl) (Nat.le_of_ble_eq_true rfl) dX3_isLineTooMany_128
  have w72521 := cv_ne (rfl : p1.toInt = p1.toInt) (by decide : (7 : Int32).toInt = 7) c72513
  by_cases c72522 : p1 = 8
  · have w72523 := cv_eq (rfl : p1.toInt = p1.toInt) (by decide : (8 : Int32).toInt = 8) c72522
    refine lv_tableIn (off := 128) (tgt := 129) hx hb dX3_isLineTooMany_1 (by rw [c72522]; decide) (by rw [c72522]; decide) (by rw [c72522]; decide) (by decide) ?_
    refine lv_aload_n hx hb dX3_isLineTooMany_129 rfl (lv_at hl 0 rfl) ?_
    refine t_get (C := RX3) (T := TX3) (N := 13) X hT m0 g0 rfl rfl 8 (by decide) qw_168 inlX3 rfl dX3_isLineTooMany_130 (fun v72524 hv72524 ov72524 => ?_)
    obtain ⟨z72525, rfl, rz72525⟩ := okV_i ov72524
    refine lv_bipush (v := 8) hx hb dX3_isLineTooMany_133 (by decide) ?_
    refine lv_icmp_lt (tgt := 142) hx hb dX3_isLineTooMany_135 (by decide) (fun c72526 => ?_) (fun c72526 => ?_)
    · have w72527 := cv_lt (rfl : z72525.toInt = z72525.toInt) (by decide : (8 : Int32).toInt = 8) c72526
      refine lv_iconst (v := 0) hx hb dX3_isLineTooMany_142 (by decide) ?_
      exact t_zret hQ X hT (by decide) (⟨rfl, (by decide)⟩) (Nat.le_of_ble_eq_true rfl) (Nat.le_of_ble_eq_true rfl) dX3_isLineTooMany_143
    · have w72528 := cv_nlt (rfl : z72525.toInt = z72525.toInt) (by decide : (8 : Int32).toInt = 8) c72526
      refine lv_iconst (v := 1) hx hb dX3_isLineTooMany_138 (by decide) ?_
      refine lv_goto (tgt := 143) hx hb dX3_isLineTooMany_139 (by decide) ?_
      exact t_zret hQ X hT (by decide) (⟨rfl, (by decide)⟩) (Nat.le_of_ble_eq_true rfl) (Nat.le_of_ble_eq_true rfl) dX3_isLineTooMany_143
  have w72529 := cv_ne (rfl : p1.toInt = p1.toInt) (by decide : (8 : Int32).toInt = 8) c72522
  refine lv_tableOut (tgt := 144) hx hb dX3_isLineTooMany_1 (by omega) (by decide) ?_
  refine lv_iconst (v := 0) hx hb dX3_isLineTooMany_144 (by decide) ?_
  exact t_zret hQ X hT (by decide) (⟨rfl, (by decide)⟩) (Nat.le_of_ble_eq_true rfl) (Nat.le_of_ble_eq_true rfl) dX3_isLineTooMany_145
set_option maxHeartbeats 4000000 in
set_option maxRecDepth 100000 in
theorem kt207_X3_fail (l : Launch) (G : KG) (tag : Nat → Nat) (L : List Nat) (Fo : Nat → va_E) (ho : okT G ttC tag L Fo) (p0 : Nat) (p1 : Int32) (p2 : Int32) (m0 : p0 ∈ L) (g0 : tag p0 = 25) : TMv l yX3_fail cX3_fail 3 { frames := 0, cells := 0, slots := 0, locals := 0 } G ttC tag L Fo [.ref p0, .int p1, .int p2] (fun F1 => ∀ b j : Nat, (tag b ≠ 25 ∨ j ≠ 3) → (tag b ≠ 25 ∨ j ≠ 4) → fld F1 b j = fld Fo b j) := by
  refine t_bodyv (y := yX3_fail) (cd := cX3_fail) (mL := 3) (rm := { frames := 0, cells := 0, slots := 0, locals := 0 }) (av := [.ref p0, .int p1, .int p2]) (by decide) (Nat.le_of_ble_eq_true rfl) ho ?_
  intro p e s m args below meth c ls A Q hQ X hT hl
  have hx := X.1.1
  have hb := X.1.2.1
  have hl : lv_has ls 3 [(0, .ref p0), (1, .int p1), (2, .int p2)] := hl
  have rp1 := rg_all p1
  have rp2 := rg_all p2
  obtain ⟨F, hFo⟩ : ∃ F : Nat → va_E, F = Fo := ⟨_, rfl⟩
  rw [← hFo] at hT
  have hfr : ∀ b j : Nat, (tag b ≠ 25 ∨ j ≠ 3) → (tag b ≠ 25 ∨ j ≠ 4) → fld F b j = fld Fo b j := by
    rw [hFo]
    intros
    rfl
  refine lv_aload_n hx hb dX3_fail_0 rfl (lv_at hl 0 rfl) ?_
  refine t_get (C := RX3) (T := TX3) (N := 13) X hT m0 g0 rfl rfl 3 (by decide) qw_163 inlX3 rfl dX3_fail_1 (fun v72622 hv72622 ov72622 => ?_)
  obtain ⟨z72623, rfl, rz72623⟩ := okV_i ov72622
  refine lv_if_ne (tgt := 17) hx hb dX3_fail_4 (by decide) (fun c72624 => ?_) (fun c72624 => ?_)
  · have w72625 := cv_ne (rfl : z72623.toInt = z72623.toInt) (by decide : (0 : Int32).toInt = 0) c72624
    exact t_vret hQ X hT hfr (Nat.le_of_ble_eq_true rfl) (Nat.le_of_ble_eq_true rfl) dX3_fail_17
  · have w72626 := cv_eq (rfl : z72623.toInt = z72623.toInt) (by decide : (0 : Int32).toInt = 0) c72624
    refine lv_aload_n hx hb dX3_fail_7 rfl (lv_at hl 0 rfl) ?_
    refine lv_iload_n hx hb dX3_fail_8 rfl (lv_at hl 1 rfl) ?_
    refine t_put (C := RX3) (T := TX3) (N := 13) (v := .int p1) X hT m0 g0 rfl tyX3 tyX3_ok nmX3 rfl 3 (by decide) qw_163 inlX3 rfl (by first | rfl | decide) (by first | rfl | decide) rfl (⟨_, rfl, (by omega), (by omega)⟩) dX3_fail_9 (fun F H locs hT v72627 h1v72627 h2v72627 => ?_)
    have hfr : ∀ b j : Nat, (tag b ≠ 25 ∨ j ≠ 3) → (tag b ≠ 25 ∨ j ≠ 4) → fld F b j = fld Fo b j := fun b j n25_3 n25_4 => (h1v72627 b j (fr_ne g0 n25_3)).trans (hfr b j n25_3 n25_4)
    refine lv_aload_n hx hb dX3_fail_12 rfl (lv_at hl 0 rfl) ?_
    refine lv_iload_n hx hb dX3_fail_13 rfl (lv_at hl 2 rfl) ?_
    refine t_put (C := RX3) (T := TX3) (N := 13) (v := .int p2) X hT m0 g0 rfl tyX3 tyX3_ok nmX3 rfl 4 (by decide) qw_164 inlX3 rfl (by first | rfl | decide) (by first | rfl | decide) rfl (⟨_, rfl, (by omega), (by omega)⟩) dX3_fail_14 (fun F H locs hT v72628 h1v72628 h2v72628 => ?_)
    have v72627 := (h1v72628 _ _ (Or.inr (by decide))).trans v72627
    have hfr : ∀ b j : Nat, (tag b ≠ 25 ∨ j ≠ 3) → (tag b ≠ 25 ∨ j ≠ 4) → fld F b j = fld Fo b j := fun b j n25_3 n25_4 => (h1v72628 b j (fr_ne g0 n25_4)).trans (hfr b j n25_3 n25_4)
    exact t_vret hQ X hT hfr (Nat.le_of_ble_eq_true rfl) (Nat.le_of_ble_eq_true rfl) dX3_fail_17
set_option maxHeartbeats 4000000 in
set_option maxRecDepth 100000 in
theorem kt208_X3_checkLine (l : Launch) (G : KG) (tag : Nat → Nat) (L : List Nat) (Fo : Nat → va_E) (ho : okT G ttC tag L Fo) (p0 : Nat) (p1 : Int32) (x0 : Nat) (x1 : Nat) (x2 : Nat) (x3 : Nat) (m0 : p0 ∈ L) (g0 : tag p0 = 25) (mx0 : x0 ∈ L) (gx0 : tag x0 = 24) (pf0 : fld Fo p0 0 = .ref x0) (mx1 : x1 ∈ L) (gx1 : tag x1 = 18) (pf1 : fld Fo p0 1 = .ref x1) (mx2 : x2 ∈ L) (gx2 : tag x2 = 19) (pf2 : fld Fo p0 2 = .ref x2) (mx3 : x3 ∈ L) (gx3 : tag x3 = 1) (pf3 : fld Fo x0 0 = .ref x3) : TMv l yX3_checkLine cX3_checkLine 2 { frames := 1, cells := 0, slots := 0, locals := 22 } G ttC tag L Fo [.ref p0, .int p1] (fun F1 => ∀ b j : Nat, (tag b ≠ 25 ∨ j ≠ 3) → (tag b ≠ 25 ∨ j ≠ 4) → fld F1 b j = fld Fo b j) := by
  refine t_bodyv (y := yX3_checkLine) (cd := cX3_checkLine) (mL := 2) (rm := { frames := 1, cells := 0, slots := 0, locals := 22 }) (av := [.ref p0, .int p1]) (by decide) (Nat.le_of_ble_eq_true rfl) ho ?_
  intro p e s m args below meth c ls A Q hQ X hT hl
  have hx := X.1.1
  have hb := X.1.2.1
  have hl : lv_has ls 2 [(0, .ref p0), (1, .int p1)] := hl
  have rp1 := rg_all p1
  obtain ⟨F, hFo⟩ : ∃ F : Nat → va_E, F = Fo := ⟨_, rfl⟩
  rw [← hFo] at hT
  have hfr : ∀ b j : Nat, (tag b ≠ 25 ∨ j ≠ 3) → (tag b ≠ 25 ∨ j ≠ 4) → fld F b j = fld Fo b j := by
    rw [hFo]
    intros
    rfl
  have K72 : ∀  (F : Nat → va_E) (H : Heap) (locs : List Loc) (ls : Array Slot), TH G ttC A s tag L F H locs → (∀ b j : Nat, (tag b ≠ 25 ∨ j ≠ 3) → (tag b ≠ 25 ∨ j ≠ 4) → fld F b j = fld Fo b j) → fld F p0 0 = .ref x0 → fld F p0 1 = .ref x1 → fld F p0 2 = .ref x2 → fld F x0 0 = .ref x3 → lv_has ls 2 [(0, .ref p0), (1, .int p1)] → W p l e { frames := 1, cells := 0, slots := 0, locals := 22 } s m args below meth c H locs 0 0 Q (F0 m 72 ls []) := by
    intro F H locs ls hT hfr pf0 pf1 pf2 pf3 hl
    refine lv_aload_n hx hb dX3_checkLine_72 rfl (lv_at hl 0 rfl) ?_
    refine lv_bipush (v := 6) hx hb dX3_checkLine_73 (by decide) ?_
    refine lv_aload_n hx hb dX3_checkLine_75 rfl (lv_at hl 0 rfl) ?_
    refine t_get (C := RX3) (T := TX3) (N := 13) X hT m0 g0 rfl rfl 0 (by decide) qw_73 inlX3 rfl dX3_checkLine_76 (fun v73151 hv73151 ov73151 => ?_)
    obtain rfl : v73151 = .ref x0 := hv73151.symm.trans pf0
    refine t_get (C := RX8) (T := TX8) (N := 8) X hT mx0 gx0 rfl rfl 4 (by decide) qw_227 inlX8 rfl dX3_checkLine_79 (fun v73152 hv73152 ov73152 => ?_)
    obtain ⟨z73153, rfl, rz73153⟩ := okV_i ov73152
    refine t_cVv (n := 2) (C := RX3) (T := TX3) (N := 13) (As := [.int 6, .int z73153]) (rest := []) X hT (kt207_X3_fail l G tag L F hT.2.2.2 p0 6 z73153 m0 g0) m0 g0 rfl rfl qw_287 qw_288 qw_289 qw_28 qw_290 ⟨rfl, by decide +kernel, by decide +kernel, by decide +kernel⟩ ⟨Nat.le_of_ble_eq_true rfl, Nat.le_of_ble_eq_true rfl⟩ hl rfl rfl (Nat.le_of_ble_eq_true rfl) dX3_checkLine_82 ⟨Nat.le_of_ble_eq_true rfl, Nat.le_of_ble_eq_true rfl⟩ (fun F H locs hT hz73154 => ?_)
    have yz73154 := hz73154
    have pf0 := (yz73154 _ 0 (Or.inr (by decide)) (Or.inr (by decide))).trans pf0
    have pf1 := (yz73154 _ 1 (Or.inr (by decide)) (Or.inr (by decide))).trans pf1
    have pf2 := (yz73154 _ 2 (Or.inr (by decide)) (Or.inr (by decide))).trans pf2
    have pf3 := (yz73154 _ 0 (Or.inr (by decide)) (Or.inr (by decide))).trans pf3
    have hv73152 := (yz73154 _ 4 (Or.inr (by decide)) (Or.inl (by rw [gx0]; decide))).trans hv73152
    have hfr : ∀ b j : Nat, (tag b ≠ 25 ∨ j ≠ 3) → (tag b ≠ 25 ∨ j ≠ 4) → fld F b j = fld Fo b j := fun b j n25_3 n25_4 => (yz73154 b j n25_3 n25_4).trans (hfr b j n25_3 n25_4)
    exact t_vret hQ X hT hfr (Nat.le_of_ble_eq_true rfl) (Nat.le_of_ble_eq_true rfl) dX3_checkLine_85
  have K57 : ∀  (F : Nat → va_E) (H : Heap) (locs : List Loc) (ls : Array Slot), TH G ttC A s tag L F H locs → (∀ b j : Nat, (tag b ≠ 25 ∨ j ≠ 3) → (tag b ≠ 25 ∨ j ≠ 4) → fld F b j = fld Fo b j) → fld F p0 0 = .ref x0 → fld F p0 1 = .ref x1 → fld F p0 2 = .ref x2 → fld F x0 0 = .ref x3 → lv_has ls 2 [(0, .ref p0), (1, .int p1)] → W p l e { frames := 1, cells := 0, slots := 0, locals := 22 } s m args below meth c H locs 0 0 Q (F0 m 57 ls []) := by
    intro F H locs ls hT hfr pf0 pf1 pf2 pf3 hl
    refine lv_iload_n hx hb dX3_checkLine_57 rfl (lv_at hl 1 rfl) ?_
    refine lv_iconst (v := 2) hx hb dX3_checkLine_58 (by decide) ?_
    refine lv_icmp_ne (tgt := 85) hx hb dX3_checkLine_59 (by decide) (fun c73155 => ?_) (fun c73155 => ?_)
    · have w73156 := cv_ne (rfl : p1.toInt = p1.toInt) (by decide : (2 : Int32).toInt = 2) c73155
      exact t_vret hQ X hT hfr (Nat.le_of_ble_eq_true rfl) (Nat.le_of_ble_eq_true rfl) dX3_checkLine_85
    · have w73157 := cv_eq (rfl : p1.toInt = p1.toInt) (by decide : (2 : Int32).toInt = 2) c73155
      refine lv_aload_n hx hb dX3_checkLine_62 rfl (lv_at hl 0 rfl) ?_
      refine t_get (C := RX3) (T := TX3) (N := 13) X hT m0 g0 rfl rfl 1 (by decide) qw_161 inlX3 rfl dX3_checkLine_63 (fun v73158 hv73158 ov73158 => ?_)
      obtain rfl : v73158 = .ref x1 := hv73158.symm.trans pf1
      refine t_get (C := RX1) (T := TX1) (N := 20) X hT mx1 gx1 rfl rfl 10 (by decide) qw_172 inlX1 rfl dX3_checkLine_66 (fun v73159 hv73159 ov73159 => ?_)
      obtain ⟨z73160, rfl, rz73160⟩ := okV_i ov73159
      refine lv_if_le (tgt := 85) hx hb dX3_checkLine_69 (by decide) (fun c73161 => ?_) (fun c73161 => ?_)
      · have w73162 := cv_le (rfl : z73160.toInt = z73160.toInt) (by decide : (0 : Int32).toInt = 0) c73161
        exact t_vret hQ X hT hfr (Nat.le_of_ble_eq_true rfl) (Nat.le_of_ble_eq_true rfl) dX3_checkLine_85
      · have w73163 := cv_nle (rfl : z73160.toInt = z73160.toInt) (by decide : (0 : Int32).toInt = 0) c73161
        exact K72  _ _ _ _  hT hfr pf0 pf1 pf2 pf3 (lv_sub hl [0, 1] rfl)
  refine lv_aload_n hx hb dX3_checkLine_0 rfl (lv_at hl 0 rfl) ?_
  refine lv_iload_n hx hb dX3_checkLine_1 rfl (lv_at hl 1 rfl) ?_
  refine t_cVi (n := 1) (C := RX3) (T := TX3) (N := 13) (As := [.int p1]) (rest := []) X hT (kt205_X3_isLineAgain l G tag L F hT.2.2.2 p0 p1 m0 g0) m0 g0 rfl rfl qw_295 qw_296 qw_297 qw_28 qw_298 ⟨rfl, by decide +kernel, by decide +kernel, by decide +kernel⟩ ⟨Nat.le_of_ble_eq_true rfl, Nat.le_of_ble_eq_true rfl⟩ hl rfl rfl (Nat.le_of_ble_eq_true rfl) dX3_checkLine_2 ⟨Nat.le_of_ble_eq_true rfl, Nat.le_of_ble_eq_true rfl⟩ (fun z73164 F9 H locs hT hz73164 => ?_)
  obtain ⟨fz73164, hz73164⟩ := hz73164
  rw [fz73164] at hT
  refine lv_if_eq (tgt := 23) hx hb dX3_checkLine_5 (by decide) (fun c73165 => ?_) (fun c73165 => ?_)
  · have w73166 := cv_eq (rfl : z73164.toInt = z73164.toInt) (by decide : (0 : Int32).toInt = 0) c73165
    refine lv_aload_n hx hb dX3_checkLine_23 rfl (lv_at hl 0 rfl) ?_
    refine lv_iload_n hx hb dX3_checkLine_24 rfl (lv_at hl 1 rfl) ?_
    refine t_cVi (n := 1) (C := RX3) (T := TX3) (N := 13) (As := [.int p1]) (rest := []) X hT (kt206_X3_isLineTooMany l G tag L F hT.2.2.2 p0 p1 x0 x1 x2 x3 m0 g0 mx0 gx0 pf0 mx1 gx1 pf1 mx2 gx2 pf2 mx3 gx3 pf3) m0 g0 rfl rfl qw_299 qw_300 qw_301 qw_28 qw_302 ⟨rfl, by decide +kernel, by decide +kernel, by decide +kernel⟩ ⟨Nat.le_of_ble_eq_true rfl, Nat.le_of_ble_eq_true rfl⟩ hl rfl rfl (Nat.le_of_ble_eq_true rfl) dX3_checkLine_25 ⟨Nat.le_of_ble_eq_true rfl, Nat.le_of_ble_eq_true rfl⟩ (fun z73167 F9 H locs hT hz73167 => ?_)
    obtain ⟨fz73167, hz73167⟩ := hz73167
    rw [fz73167] at hT
    refine lv_if_eq (tgt := 46) hx hb dX3_checkLine_28 (by decide) (fun c73168 => ?_) (fun c73168 => ?_)
    · have w73169 := cv_eq (rfl : z73167.toInt = z73167.toInt) (by decide : (0 : Int32).toInt = 0) c73168
      refine lv_iload_n hx hb dX3_checkLine_46 rfl (lv_at hl 1 rfl) ?_
      refine lv_if_eq (tgt := 57) hx hb dX3_checkLine_47 (by decide) (fun c73170 => ?_) (fun c73170 => ?_)
      · have w73171 := cv_eq (rfl : p1.toInt = p1.toInt) (by decide : (0 : Int32).toInt = 0) c73170
        exact K57  _ _ _ _  hT hfr pf0 pf1 pf2 pf3 (lv_sub hl [0, 1] rfl)
      · have w73172 := cv_ne (rfl : p1.toInt = p1.toInt) (by decide : (0 : Int32).toInt = 0) c73170
        refine lv_aload_n hx hb dX3_checkLine_50 rfl (lv_at hl 0 rfl) ?_
        refine t_get (C := RX3) (T := TX3) (N := 13) X hT m0 g0 rfl rfl 5 (by decide) qw_165 inlX3 rfl dX3_checkLine_51 (fun v73173 hv73173 ov73173 => ?_)
        obtain ⟨z73174, rfl, rz73174⟩ := okV_i ov73173
        refine lv_if_eq (tgt := 72) hx hb dX3_checkLine_54 (by decide) (fun c73175 => ?_) (fun c73175 => ?_)
        · have w73176 := cv_eq (rfl : z73174.toInt = z73174.toInt) (by decide : (0 : Int32).toInt = 0) c73175
          exact K72  _ _ _ _  hT hfr pf0 pf1 pf2 pf3 (lv_sub hl [0, 1] rfl)
        · have w73177 := cv_ne (rfl : z73174.toInt = z73174.toInt) (by decide : (0 : Int32).toInt = 0) c73175
          exact K57  _ _ _ _  hT hfr pf0 pf1 pf2 pf3 (lv_sub hl [0, 1] rfl)
    · have w73178 := cv_ne (rfl : z73167.toInt = z73167.toInt) (by decide : (0 : Int32).toInt = 0) c73168
      refine lv_aload_n hx hb dX3_checkLine_31 rfl (lv_at hl 0 rfl) ?_
      refine lv_iconst (v := 5) hx hb dX3_checkLine_32 (by decide) ?_
      refine lv_aload_n hx hb dX3_checkLine_33 rfl (lv_at hl 0 rfl) ?_
      refine t_get (C := RX3) (T := TX3) (N := 13) X hT m0 g0 rfl rfl 0 (by decide) qw_73 inlX3 rfl dX3_checkLine_34 (fun v73179 hv73179 ov73179 => ?_)
      obtain rfl : v73179 = .ref x0 := hv73179.symm.trans pf0
      refine t_get (C := RX8) (T := TX8) (N := 8) X hT mx0 gx0 rfl rfl 4 (by decide) qw_227 inlX8 rfl dX3_checkLine_37 (fun v73180 hv73180 ov73180 => ?_)
      obtain ⟨z73181, rfl, rz73181⟩ := okV_i ov73180
      refine t_cVv (n := 2) (C := RX3) (T := TX3) (N := 13) (As := [.int 5, .int z73181]) (rest := []) X hT (kt207_X3_fail l G tag L F hT.2.2.2 p0 5 z73181 m0 g0) m0 g0 rfl rfl qw_287 qw_288 qw_289 qw_28 qw_290 ⟨rfl, by decide +kernel, by decide +kernel, by decide +kernel⟩ ⟨Nat.le_of_ble_eq_true rfl, Nat.le_of_ble_eq_true rfl⟩ hl rfl rfl (Nat.le_of_ble_eq_true rfl) dX3_checkLine_40 ⟨Nat.le_of_ble_eq_true rfl, Nat.le_of_ble_eq_true rfl⟩ (fun F H locs hT hz73182 => ?_)
      have yz73182 := hz73182
      have pf0 := (yz73182 _ 0 (Or.inr (by decide)) (Or.inr (by decide))).trans pf0
      have pf1 := (yz73182 _ 1 (Or.inr (by decide)) (Or.inr (by decide))).trans pf1
      have pf2 := (yz73182 _ 2 (Or.inr (by decide)) (Or.inr (by decide))).trans pf2
      have pf3 := (yz73182 _ 0 (Or.inr (by decide)) (Or.inr (by decide))).trans pf3
      have hv73180 := (yz73182 _ 4 (Or.inr (by decide)) (Or.inl (by rw [gx0]; decide))).trans hv73180
      have hfr : ∀ b j : Nat, (tag b ≠ 25 ∨ j ≠ 3) → (tag b ≠ 25 ∨ j ≠ 4) → fld F b j = fld Fo b j := fun b j n25_3 n25_4 => (yz73182 b j n25_3 n25_4).trans (hfr b j n25_3 n25_4)
      refine lv_goto (tgt := 85) hx hb dX3_checkLine_43 (by decide) ?_
      exact t_vret hQ X hT hfr (Nat.le_of_ble_eq_true rfl) (Nat.le_of_ble_eq_true rfl) dX3_checkLine_85
  · have w73183 := cv_ne (rfl : z73164.toInt = z73164.toInt) (by decide : (0 : Int32).toInt = 0) c73165
    refine lv_aload_n hx hb dX3_checkLine_8 rfl (lv_at hl 0 rfl) ?_
    refine lv_iconst (v := 3) hx hb dX3_checkLine_9 (by decide) ?_
    refine lv_aload_n hx hb dX3_checkLine_10 rfl (lv_at hl 0 rfl) ?_
    refine t_get (C := RX3) (T := TX3) (N := 13) X hT m0 g0 rfl rfl 0 (by decide) qw_73 inlX3 rfl dX3_checkLine_11 (fun v73184 hv73184 ov73184 => ?_)
    obtain rfl : v73184 = .ref x0 := hv73184.symm.trans pf0
    refine t_get (C := RX8) (T := TX8) (N := 8) X hT mx0 gx0 rfl rfl 4 (by decide) qw_227 inlX8 rfl dX3_checkLine_14 (fun v73185 hv73185 ov73185 => ?_)
    obtain ⟨z73186, rfl, rz73186⟩ := okV_i ov73185
    refine t_cVv (n := 2) (C := RX3) (T := TX3) (N := 13) (As := [.int 3, .int z73186]) (rest := []) X hT (kt207_X3_fail l G tag L F hT.2.2.2 p0 3 z73186 m0 g0) m0 g0 rfl rfl qw_287 qw_288 qw_289 qw_28 qw_290 ⟨rfl, by decide +kernel, by decide +kernel, by decide +kernel⟩ ⟨Nat.le_of_ble_eq_true rfl, Nat.le_of_ble_eq_true rfl⟩ hl rfl rfl (Nat.le_of_ble_eq_true rfl) dX3_checkLine_17 ⟨Nat.le_of_ble_eq_true rfl, Nat.le_of_ble_eq_true rfl⟩ (fun F H locs hT hz73187 => ?_)
    have yz73187 := hz73187
    have pf0 := (yz73187 _ 0 (Or.inr (by decide)) (Or.inr (by decide))).trans pf0
    have pf1 := (yz73187 _ 1 (Or.inr (by decide)) (Or.inr (by decide))).trans pf1
    have pf2 := (yz73187 _ 2 (Or.inr (by decide)) (Or.inr (by decide))).trans pf2
    have pf3 := (yz73187 _ 0 (Or.inr (by decide)) (Or.inr (by decide))).trans pf3
    have hv73185 := (yz73187 _ 4 (Or.inr (by decide)) (Or.inl (by rw [gx0]; decide))).trans hv73185
    have hfr : ∀ b j : Nat, (tag b ≠ 25 ∨ j ≠ 3) → (tag b ≠ 25 ∨ j ≠ 4) → fld F b j = fld Fo b j := fun b j n25_3 n25_4 => (yz73187 b j n25_3 n25_4).trans (hfr b j n25_3 n25_4)
    refine lv_goto (tgt := 85) hx hb dX3_checkLine_20 (by decide) ?_
    exact t_vret hQ X hT hfr (Nat.le_of_ble_eq_true rfl) (Nat.le_of_ble_eq_true rfl) dX3_checkLine_85
set_option maxHeartbeats 4000000 in
set_option maxRecDepth 100000 in
theorem kt209_X3_fail (l : Launch) (G : KG) (tag : Nat → Nat) (L : List Nat) (Fo : Nat → va_E) (ho : okT G ttC tag L Fo) (p0 : Nat) (p1 : Int32) (p2 : Int32) (m0 : p0 ∈ L) (g0 : tag p0 = 25) : TMv l yX3_fail cX3_fail 3 { frames := 0, cells := 0, slots := 0, locals := 0 } G ttC tag L Fo [.ref p0, .int p1, .int p2] (fun F1 => ∀ b j : Nat, (tag b ≠ 25 ∨ j ≠ 3) → (tag b ≠ 25 ∨ j ≠ 4) → fld F1 b j = fld Fo b j) := by
  refine t_bodyv (y := yX3_fail) (cd := cX3_fail) (mL := 3) (rm := { frames := 0, cells := 0, slots := 0, locals := 0 }) (av := [.ref p0, .int p1, .int p2]) (by decide) (Nat.le_of_ble_eq_true rfl) ho ?_
  intro p e s m args below meth c ls A Q hQ X hT hl
  have hx := X.1.1
  have hb := X.1.2.1
  have hl : lv_has ls 3 [(0, .ref p0), (1, .int p1), (2, .int p2)] := hl
  have rp1 := rg_all p1
  have rp2 := rg_all p2
  obtain ⟨F, hFo⟩ : ∃ F : Nat → va_E, F = Fo := ⟨_, rfl⟩
  rw [← hFo] at hT
  have hfr : ∀ b j : Nat, (tag b ≠ 25 ∨ j ≠ 3) → (tag b ≠ 25 ∨ j ≠ 4) → fld F b j = fld Fo b j := by
    rw [hFo]
    intros
    rfl
  refine lv_aload_n hx hb dX3_fail_0 rfl (lv_at hl 0 rfl) ?_
  refine t_get (C := RX3) (T := TX3) (N := 13) X hT m0 g0 rfl rfl 3 (by decide) qw_163 inlX3 rfl dX3_fail_1 (fun v73276 hv73276 ov73276 => ?_)
  obtain ⟨z73277, rfl, rz73277⟩ := okV_i ov73276
  refine lv_if_ne (tgt := 17) hx hb dX3_fail_4 (by decide) (fun c73278 => ?_) (fun c73278 => ?_)
  · have w73279 := cv_ne (rfl : z73277.toInt = z73277.toInt) (by decide : (0 : Int32).toInt = 0) c73278
    exact t_vret hQ X hT hfr (Nat.le_of_ble_eq_true rfl) (Nat.le_of_ble_eq_true rfl) dX3_fail_17
  · have w73280 := cv_eq (rfl : z73277.toInt = z73277.toInt) (by decide : (0 : Int32).toInt = 0) c73278
    refine lv_aload_n hx hb dX3_fail_7 rfl (lv_at hl 0 rfl) ?_
    refine lv_iload_n hx hb dX3_fail_8 rfl (lv_at hl 1 rfl) ?_
    refine t_put (C := RX3) (T := TX3) (N := 13) (v := .int p1) X hT m0 g0 rfl tyX3 tyX3_ok nmX3 rfl 3 (by decide) qw_163 inlX3 rfl (by first | rfl | decide) (by first | rfl | decide) rfl (⟨_, rfl, (by omega), (by omega)⟩) dX3_fail_9 (fun F H locs hT v73281 h1v73281 h2v73281 => ?_)
    have hfr : ∀ b j : Nat, (tag b ≠ 25 ∨ j ≠ 3) → (tag b ≠ 25 ∨ j ≠ 4) → fld F b j = fld Fo b j := fun b j n25_3 n25_4 => (h1v73281 b j (fr_ne g0 n25_3)).trans (hfr b j n25_3 n25_4)
    refine lv_aload_n hx hb dX3_fail_12 rfl (lv_at hl 0 rfl) ?_
    refine lv_iload_n hx hb dX3_fail_13 rfl (lv_at hl 2 rfl) ?_
    refine t_put (C := RX3) (T := TX3) (N := 13) (v := .int p2) X hT m0 g0 rfl tyX3 tyX3_ok nmX3 rfl 4 (by decide) qw_164 inlX3 rfl (by first | rfl | decide) (by first | rfl | decide) rfl (⟨_, rfl, (by omega), (by omega)⟩) dX3_fail_14 (fun F H locs hT v73282 h1v73282 h2v73282 => ?_)
    have v73281 := (h1v73282 _ _ (Or.inr (by decide))).trans v73281
    have hfr : ∀ b j : Nat, (tag b ≠ 25 ∨ j ≠ 3) → (tag b ≠ 25 ∨ j ≠ 4) → fld F b j = fld Fo b j := fun b j n25_3 n25_4 => (h1v73282 b j (fr_ne g0 n25_4)).trans (hfr b j n25_3 n25_4)
    exact t_vret hQ X hT hfr (Nat.le_of_ble_eq_true rfl) (Nat.le_of_ble_eq_true rfl) dX3_fail_17
set_option maxHeartbeats 4000000 in
set_option maxRecDepth 100000 in
theorem kt210_X3_findName (l : Launch) (G : KG) (tag : Nat → Nat) (L : List Nat) (F : Nat → va_E) (ho : okT G ttC tag L F) (p0 : Nat) (x0 : Nat) (x1 : Nat) (x2 : Nat) (x3 : Nat) (m0 : p0 ∈ L) (g0 : tag p0 = 25) (mx0 : x0 ∈ L) (gx0 : tag x0 = 24) (pf0 : fld F p0 0 = .ref x0) (mx1 : x1 ∈ L) (gx1 : tag x1 = 18) (pf1 : fld F p0 1 = .ref x1) (mx2 : x2 ∈ L) (gx2 : tag x2 = 19) (pf2 : fld F p0 2 = .ref x2) (mx3 : x3 ∈ L) (gx3 : tag x3 = 1) (pf3 : fld F x0 0 = .ref x3) : TMi l yX3_findName cX3_findName 2 (some .int) { frames := 0, cells := 0, slots := 0, locals := 0 } G ttC tag L F [.ref p0] (fun r F1 => F1 = F ∧ ((-1) ≤ r.toInt ∧ r.toInt ≤ 19)) := by
  refine t_bodyi (y := yX3_findName) (cd := cX3_findName) (mL := 2) (rt := (some .int)) (rm := { frames := 0, cells := 0, slots := 0, locals := 0 }) (av := [.ref p0]) (by decide) (Nat.le_of_ble_eq_true rfl) ho ?_
  intro p e s m args below meth c ls A Q hQ X hT hl
  have hx := X.1.1
  have hb := X.1.2.1
  have hl : lv_has ls 2 [(0, .ref p0)] := hl
  have K2 : ∀ (n : Nat) (z74077 : Int32) (H : Heap) (locs : List Loc) (ls : Array Slot), (20 - z74077.toInt < (n : Int)) → (0 ≤ z74077.toInt ∧ z74077.toInt ≤ 20) → TH G ttC A s tag L F H locs → lv_has ls 2 [(0, .ref p0), (1, .int z74077)] → W p l e { frames := 0, cells := 0, slots := 0, locals := 0 } s m args below meth c H locs 0 0 Q (F0 m 2 ls []) := by
    intro n
    induction n with
    | zero =>
      intro z74077 H locs ls hn rz74077 hT hl
      exfalso
      omega
    | succ n ih2 =>
      intro z74077 H locs ls hn rz74077 hT hl
      have K40 : ∀ (z74079 : Int32) (H : Heap) (locs : List Loc) (ls : Array Slot), (1 ≤ z74079.toInt ∧ z74079.toInt ≤ 20) → (0 ≤ z74077.toInt ∧ z74077.toInt ≤ 19) → TH G ttC A s tag L F H locs → fld F p0 12 = .int z74079 → lv_has ls 2 [(0, .ref p0), (1, .int z74077)] → W p l e { frames := 0, cells := 0, slots := 0, locals := 0 } s m args below meth c H locs 0 0 Q (F0 m 40 ls []) := by
        intro z74079 H locs ls rz74079 r9s74078 hT qz74079 hl
        obtain ⟨z74080, ez74080⟩ : ∃ y : Int32, y = z74077 + 1 := ⟨_, rfl⟩
        have hz74080 : z74080.toInt = z74077.toInt + 1 := ar_add ez74080 rfl (by decide : (1 : Int32).toInt = 1) (by omega) (by omega)
        refine lv_iinc (v := z74080) (lv' := [(1, .int z74080), (0, .ref p0)]) hx hb dX3_findName_40 hl (k := 1) rfl (by rw [ez74080]; rfl) (by decide) rfl (fun ls hl => ?_)
        refine lv_goto (tgt := 2) hx hb dX3_findName_43 (by decide) ?_
        exact ih2 z74080 _ _ _ (by omega) (by omega) hT  (lv_sub hl [1, 0] rfl)
      refine lv_iload_n hx hb dX3_findName_2 rfl (lv_at hl 1 rfl) ?_
      refine lv_aload_n hx hb dX3_findName_3 rfl (lv_at hl 0 rfl) ?_
      refine t_get (C := RX3) (T := TX3) (N := 13) X hT m0 g0 rfl rfl 12 (by decide) qw_169 inlX3 rfl dX3_findName_4 (fun v74081 hv74081 ov74081 => ?_)
      obtain ⟨z74082, rfl, rz74082⟩ := okV_i ov74081
      refine lv_icmp_ge (tgt := 46) hx hb dX3_findName_7 (by decide) (fun c74083 => ?_) (fun c74083 => ?_)
      · have w74084 := cv_le (rfl : z74082.toInt = z74082.toInt) (rfl : z74077.toInt = z74077.toInt) c74083
        refine lv_iconst (v := (-1)) hx hb dX3_findName_46 (by decide) ?_
        exact t_iret hQ X hT (⟨rfl, (by decide)⟩) (Nat.le_of_ble_eq_true rfl) (Nat.le_of_ble_eq_true rfl) dX3_findName_47
      · have w74085 := cv_nle (rfl : z74082.toInt = z74082.toInt) (rfl : z74077.toInt = z74077.toInt) c74083
        refine lv_aload_n hx hb dX3_findName_10 rfl (lv_at hl 0 rfl) ?_
        refine t_get (C := RX3) (T := TX3) (N := 13) X hT m0 g0 rfl rfl 0 (by decide) qw_73 inlX3 rfl dX3_findName_11 (fun v74086 hv74086 ov74086 => ?_)
        obtain rfl : v74086 = .ref x0 := hv74086.symm.trans pf0
        refine t_get (C := RX8) (T := TX8) (N := 8) X hT mx0 gx0 rfl rfl 3 (by decide) qw_170 inlX8 rfl dX3_findName_14 (fun v74087 hv74087 ov74087 => ?_)
        obtain ⟨z74088, rfl, rz74088⟩ := okV_i ov74087
        refine lv_iconst (v := 1) hx hb dX3_findName_17 (by decide) ?_
        refine lv_icmp_ne (tgt := 40) hx hb dX3_findName_18 (by decide) (fun c74089 => ?_) (fun c74089 => ?_)
        · have w74090 := cv_ne (rfl : z74088.toInt = z74088.toInt) (by decide : (1 : Int32).toInt = 1) c74089
          exact K40 z74082 _ _ _ (by omega) (by omega) hT hv74081 (lv_sub hl [0, 1] rfl)
        · have w74091 := cv_eq (rfl : z74088.toInt = z74088.toInt) (by decide : (1 : Int32).toInt = 1) c74089
          refine lv_aload_n hx hb dX3_findName_21 rfl (lv_at hl 0 rfl) ?_
          refine t_get (C := RX3) (T := TX3) (N := 13) X hT m0 g0 rfl rfl 9 (by decide) qw_74 inlX3 rfl dX3_findName_22 (fun v74092 hv74092 ov74092 => ?_)
          obtain ⟨b74093, rfl, mb74093, gb74093⟩ := okV_r ov74092
          have gb74093 : tag b74093 = 13 := tg_of gb74093
          refine lv_iload_n hx hb dX3_findName_25 rfl (lv_at hl 1 rfl) ?_
          refine t_lld X hT mb74093 gb74093 rfl (by omega) dX3_findName_26 (fun z74094 => ?_)
          refine lv_aload_n hx hb dX3_findName_27 rfl (lv_at hl 0 rfl) ?_
          refine t_get (C := RX3) (T := TX3) (N := 13) X hT m0 g0 rfl rfl 0 (by decide) qw_73 inlX3 rfl dX3_findName_28 (fun v74095 hv74095 ov74095 => ?_)
          obtain rfl : v74095 = .ref x0 := hv74095.symm.trans pf0
          refine t_get (C := RX8) (T := TX8) (N := 8) X hT mx0 gx0 rfl rfl 7 (by decide) qw_360 inlX8 rfl dX3_findName_31 (fun v74096 hv74096 ov74096 => ?_)
          obtain ⟨z74097, rfl⟩ := ov74096
          refine m_lcmp X dX3_findName_34 (fun z74098 rz74098 => ?_)
          refine lv_if_ne (tgt := 40) hx hb dX3_findName_35 (by decide) (fun c74099 => ?_) (fun c74099 => ?_)
          · have w74100 := cv_ne (rfl : z74098.toInt = z74098.toInt) (by decide : (0 : Int32).toInt = 0) c74099
            exact K40 z74082 _ _ _ (by omega) (by omega) hT hv74081 (lv_sub hl [0, 1] rfl)
          · have w74101 := cv_eq (rfl : z74098.toInt = z74098.toInt) (by decide : (0 : Int32).toInt = 0) c74099
            refine lv_iload_n hx hb dX3_findName_38 rfl (lv_at hl 1 rfl) ?_
            exact t_iret hQ X hT (⟨rfl, (by omega)⟩) (Nat.le_of_ble_eq_true rfl) (Nat.le_of_ble_eq_true rfl) dX3_findName_39
  refine lv_iconst (v := 0) hx hb dX3_findName_0 (by decide) ?_
  refine lv_istore_n (lv' := [(1, .int 0), (0, .ref p0)]) hx hb dX3_findName_1 rfl hl (by decide) rfl (fun ls hl => ?_)
  have kk74102 : (0 : Int32).toInt = 0 := by decide
  exact K2 21 0 _ _ _ (by omega) (by decide) hT  (lv_sub hl [1, 0] rfl)
set_option maxHeartbeats 4000000 in
set_option maxRecDepth 100000 in
theorem kt211_X3_isLineAgain (l : Launch) (G : KG) (tag : Nat → Nat) (L : List Nat) (F : Nat → va_E) (ho : okT G ttC tag L F) (p0 : Nat) (p1 : Int32) (m0 : p0 ∈ L) (g0 : tag p0 = 25) : TMi l yX3_isLineAgain cX3_isLineAgain 2 (some .boolean) { frames := 0, cells := 0, slots := 0, locals := 0 } G ttC tag L F [.ref p0, .int p1] (fun r F1 => F1 = F ∧ (0 ≤ r.toInt ∧ r.toInt ≤ 1)) := by
  refine t_bodyi (y := yX3_isLineAgain) (cd := cX3_isLineAgain) (mL := 2) (rt := (some .boolean)) (rm := { frames := 0, cells := 0, slots := 0, locals := 0 }) (av := [.ref p0, .int p1]) (by decide) (Nat.le_of_ble_eq_true rfl) ho ?_
  intro p e s m args below meth c ls A Q hQ X hT hl
  have hx := X.1.1
  have hb := X.1.2.1
  have hl : lv_has ls 2 [(0, .ref p0), (1, .int p1)] := hl
  have rp1 := rg_all p1
  have K23 : ∀  (H : Heap) (locs : List Loc) (ls : Array Slot), (0 ≤ p1.toInt ∧ p1.toInt ≤ 1) → TH G ttC A s tag L F H locs → lv_has ls 2 [(0, .ref p0), (1, .int p1)] → W p l e { frames := 0, cells := 0, slots := 0, locals := 0 } s m args below meth c H locs 0 0 Q (F0 m 23 ls []) := by
    intro H locs ls r9s74311 hT hl
    refine lv_iconst (v := 1) hx hb dX3_isLineAgain_23 (by decide) ?_
    refine lv_goto (tgt := 28) hx hb dX3_isLineAgain_24 (by decide) ?_
    exact t_zret hQ X hT (by decide) (⟨rfl, (by decide)⟩) (Nat.le_of_ble_eq_true rfl) (Nat.le_of_ble_eq_true rfl) dX3_isLineAgain_28
  have K11 : ∀  (H : Heap) (locs : List Loc) (ls : Array Slot), TH G ttC A s tag L F H locs → lv_has ls 2 [(0, .ref p0), (1, .int p1)] → W p l e { frames := 0, cells := 0, slots := 0, locals := 0 } s m args below meth c H locs 0 0 Q (F0 m 11 ls []) := by
    intro H locs ls hT hl
    refine lv_iload_n hx hb dX3_isLineAgain_11 rfl (lv_at hl 1 rfl) ?_
    refine lv_iconst (v := 1) hx hb dX3_isLineAgain_12 (by decide) ?_
    refine lv_icmp_ne (tgt := 27) hx hb dX3_isLineAgain_13 (by decide) (fun c74312 => ?_) (fun c74312 => ?_)
    · have w74313 := cv_ne (rfl : p1.toInt = p1.toInt) (by decide : (1 : Int32).toInt = 1) c74312
      refine lv_iconst (v := 0) hx hb dX3_isLineAgain_27 (by decide) ?_
      exact t_zret hQ X hT (by decide) (⟨rfl, (by decide)⟩) (Nat.le_of_ble_eq_true rfl) (Nat.le_of_ble_eq_true rfl) dX3_isLineAgain_28
    · have w74314 := cv_eq (rfl : p1.toInt = p1.toInt) (by decide : (1 : Int32).toInt = 1) c74312
      refine lv_aload_n hx hb dX3_isLineAgain_16 rfl (lv_at hl 0 rfl) ?_
      refine t_get (C := RX3) (T := TX3) (N := 13) X hT m0 g0 rfl rfl 6 (by decide) qw_166 inlX3 rfl dX3_isLineAgain_17 (fun v74315 hv74315 ov74315 => ?_)
      obtain ⟨z74316, rfl, rz74316⟩ := okV_i ov74315
      refine lv_if_eq (tgt := 27) hx hb dX3_isLineAgain_20 (by decide) (fun c74317 => ?_) (fun c74317 => ?_)
      · have w74318 := cv_eq (rfl : z74316.toInt = z74316.toInt) (by decide : (0 : Int32).toInt = 0) c74317
        refine lv_iconst (v := 0) hx hb dX3_isLineAgain_27 (by decide) ?_
        exact t_zret hQ X hT (by decide) (⟨rfl, (by decide)⟩) (Nat.le_of_ble_eq_true rfl) (Nat.le_of_ble_eq_true rfl) dX3_isLineAgain_28
      · have w74319 := cv_ne (rfl : z74316.toInt = z74316.toInt) (by decide : (0 : Int32).toInt = 0) c74317
        exact K23  _ _ _ (by omega) hT  (lv_sub hl [0, 1] rfl)
  refine lv_iload_n hx hb dX3_isLineAgain_0 rfl (lv_at hl 1 rfl) ?_
  refine lv_if_ne (tgt := 11) hx hb dX3_isLineAgain_1 (by decide) (fun c74320 => ?_) (fun c74320 => ?_)
  · have w74321 := cv_ne (rfl : p1.toInt = p1.toInt) (by decide : (0 : Int32).toInt = 0) c74320
    exact K11  _ _ _  hT  (lv_sub hl [0, 1] rfl)
  · have w74322 := cv_eq (rfl : p1.toInt = p1.toInt) (by decide : (0 : Int32).toInt = 0) c74320
    refine lv_aload_n hx hb dX3_isLineAgain_4 rfl (lv_at hl 0 rfl) ?_
    refine t_get (C := RX3) (T := TX3) (N := 13) X hT m0 g0 rfl rfl 5 (by decide) qw_165 inlX3 rfl dX3_isLineAgain_5 (fun v74323 hv74323 ov74323 => ?_)
    obtain ⟨z74324, rfl, rz74324⟩ := okV_i ov74323
    refine lv_if_ne (tgt := 23) hx hb dX3_isLineAgain_8 (by decide) (fun c74325 => ?_) (fun c74325 => ?_)
    · have w74326 := cv_ne (rfl : z74324.toInt = z74324.toInt) (by decide : (0 : Int32).toInt = 0) c74325
      exact K23  _ _ _ (by omega) hT  (lv_sub hl [0, 1] rfl)
    · have w74327 := cv_eq (rfl : z74324.toInt = z74324.toInt) (by decide : (0 : Int32).toInt = 0) c74325
      exact K11  _ _ _  hT  (lv_sub hl [0, 1] rfl)
set_option maxHeartbeats 4000000 in
set_option maxRecDepth 100000 in
theorem kt212_X3_isLineTooMany (l : Launch) (G : KG) (tag : Nat → Nat) (L : List Nat) (F : Nat → va_E) (ho : okT G ttC tag L F) (p0 : Nat) (p1 : Int32) (x0 : Nat) (x1 : Nat) (x2 : Nat) (x3 : Nat) (m0 : p0 ∈ L) (g0 : tag p0 = 25) (mx0 : x0 ∈ L) (gx0 : tag x0 = 24) (pf0 : fld F p0 0 = .ref x0) (mx1 : x1 ∈ L) (gx1 : tag x1 = 18) (pf1 : fld F p0 1 = .ref x1) (mx2 : x2 ∈ L) (gx2 : tag x2 = 19) (pf2 : fld F p0 2 = .ref x2) (mx3 : x3 ∈ L) (gx3 : tag x3 = 1) (pf3 : fld F x0 0 = .ref x3) : TMi l yX3_isLineTooMany cX3_isLineTooMany 2 (some .boolean) { frames := 0, cells := 0, slots := 0, locals := 0 } G ttC tag L F [.ref p0, .int p1] (fun r F1 => F1 = F ∧ (0 ≤ r.toInt ∧ r.toInt ≤ 1)) := by
  refine t_bodyi (y := yX3_isLineTooMany) (cd := cX3_isLineTooMany) (mL := 2) (rt := (some .boolean)) (rm := { frames := 0, cells := 0, slots := 0, locals := 0 }) (av := [.ref p0, .int p1]) (by decide) (Nat.le_of_ble_eq_true rfl) ho ?_
  intro p e s m args below meth c ls A Q hQ X hT hl
  have hx := X.1.1
  have hb := X.1.2.1
  have hl : lv_has ls 2 [(0, .ref p0), (1, .int p1)] := hl
  have rp1 := rg_all p1
  refine lv_iload_n hx hb dX3_isLineTooMany_0 rfl (lv_at hl 1 rfl) ?_
  by_cases c74933 : p1 = 2
  · have w74934 := cv_eq (rfl : p1.toInt = p1.toInt) (by decide : (2 : Int32).toInt = 2) c74933
    refine lv_tableIn (off := 43) (tgt := 44) hx hb dX3_isLineTooMany_1 (by rw [c74933]; decide) (by rw [c74933]; decide) (by rw [c74933]; decide) (by decide) ?_
    refine lv_aload_n hx hb dX3_isLineTooMany_44 rfl (lv_at hl 0 rfl) ?_
    refine t_get (C := RX3) (T := TX3) (N := 13) X hT m0 g0 rfl rfl 7 (by decide) qw_167 inlX3 rfl dX3_isLineTooMany_45 (fun v74935 hv74935 ov74935 => ?_)
    obtain ⟨z74936, rfl, rz74936⟩ := okV_i ov74935
    refine lv_bipush (v := 10) hx hb dX3_isLineTooMany_48 (by decide) ?_
    refine lv_icmp_lt (tgt := 57) hx hb dX3_isLineTooMany_50 (by decide) (fun c74937 => ?_) (fun c74937 => ?_)
    · have w74938 := cv_lt (rfl : z74936.toInt = z74936.toInt) (by decide : (10 : Int32).toInt = 10) c74937
      refine lv_iconst (v := 0) hx hb dX3_isLineTooMany_57 (by decide) ?_
      exact t_zret hQ X hT (by decide) (⟨rfl, (by decide)⟩) (Nat.le_of_ble_eq_true rfl) (Nat.le_of_ble_eq_true rfl) dX3_isLineTooMany_58
    · have w74939 := cv_nlt (rfl : z74936.toInt = z74936.toInt) (by decide : (10 : Int32).toInt = 10) c74937
      refine lv_iconst (v := 1) hx hb dX3_isLineTooMany_53 (by decide) ?_
      refine lv_goto (tgt := 58) hx hb dX3_isLineTooMany_54 (by decide) ?_
      exact t_zret hQ X hT (by decide) (⟨rfl, (by decide)⟩) (Nat.le_of_ble_eq_true rfl) (Nat.le_of_ble_eq_true rfl) dX3_isLineTooMany_58
  have w74940 := cv_ne (rfl : p1.toInt = p1.toInt) (by decide : (2 : Int32).toInt = 2) c74933
  by_cases c74941 : p1 = 3
  · have w74942 := cv_eq (rfl : p1.toInt = p1.toInt) (by decide : (3 : Int32).toInt = 3) c74941
    refine lv_tableIn (off := 58) (tgt := 59) hx hb dX3_isLineTooMany_1 (by rw [c74941]; decide) (by rw [c74941]; decide) (by rw [c74941]; decide) (by decide) ?_
    refine lv_aload_n hx hb dX3_isLineTooMany_59 rfl (lv_at hl 0 rfl) ?_
    refine t_get (C := RX3) (T := TX3) (N := 13) X hT m0 g0 rfl rfl 1 (by decide) qw_161 inlX3 rfl dX3_isLineTooMany_60 (fun v74943 hv74943 ov74943 => ?_)
    obtain rfl : v74943 = .ref x1 := hv74943.symm.trans pf1
    refine t_get (C := RX1) (T := TX1) (N := 20) X hT mx1 gx1 rfl rfl 8 (by decide) qw_171 inlX1 rfl dX3_isLineTooMany_63 (fun v74944 hv74944 ov74944 => ?_)
    obtain ⟨z74945, rfl, rz74945⟩ := okV_i ov74944
    refine lv_iconst (v := 4) hx hb dX3_isLineTooMany_66 (by decide) ?_
    refine lv_icmp_lt (tgt := 74) hx hb dX3_isLineTooMany_67 (by decide) (fun c74946 => ?_) (fun c74946 => ?_)
    · have w74947 := cv_lt (rfl : z74945.toInt = z74945.toInt) (by decide : (4 : Int32).toInt = 4) c74946
      refine lv_iconst (v := 0) hx hb dX3_isLineTooMany_74 (by decide) ?_
      exact t_zret hQ X hT (by decide) (⟨rfl, (by decide)⟩) (Nat.le_of_ble_eq_true rfl) (Nat.le_of_ble_eq_true rfl) dX3_isLineTooMany_75
    · have w74948 := cv_nlt (rfl : z74945.toInt = z74945.toInt) (by decide : (4 : Int32).toInt = 4) c74946
      refine lv_iconst (v := 1) hx hb dX3_isLineTooMany_70 (by decide) ?_
      refine lv_goto (tgt := 75) hx hb dX3_isLineTooMany_71 (by decide) ?_
      exact t_zret hQ X hT (by decide) (⟨rfl, (by decide)⟩) (Nat.le_of_ble_eq_true rfl) (Nat.le_of_ble_eq_true rfl) dX3_isLineTooMany_75
  have w74949 := cv_ne (rfl : p1.toInt = p1.toInt) (by decide : (3 : Int32).toInt = 3) c74941
  by_cases c74950 : p1 = 4
  · have w74951 := cv_eq (rfl : p1.toInt = p1.toInt) (by decide : (4 : Int32).toInt = 4) c74950
    refine lv_tableIn (off := 75) (tgt := 76) hx hb dX3_isLineTooMany_1 (by rw [c74950]; decide) (by rw [c74950]; decide) (by rw [c74950]; decide) (by decide) ?_
    refine lv_aload_n hx hb dX3_isLineTooMany_76 rfl (lv_at hl 0 rfl) ?_
    refine t_get (C := RX3) (T := TX3) (N := 13) X hT m0 g0 rfl rfl 1 (by decide) qw_161 inlX3 rfl dX3_isLineTooMany_77 (fun v74952 hv74952 ov74952 => ?_)
    obtain rfl : v74952 = .ref x1 := hv74952.symm.trans pf1
    refine t_get (C := RX1) (T := TX1) (N := 20) X hT mx1 gx1 rfl rfl 10 (by decide) qw_172 inlX1 rfl dX3_isLineTooMany_80 (fun v74953 hv74953 ov74953 => ?_)
    obtain ⟨z74954, rfl, rz74954⟩ := okV_i ov74953
    refine lv_iconst (v := 4) hx hb dX3_isLineTooMany_83 (by decide) ?_
    refine lv_icmp_lt (tgt := 91) hx hb dX3_isLineTooMany_84 (by decide) (fun c74955 => ?_) (fun c74955 => ?_)
    · have w74956 := cv_lt (rfl : z74954.toInt = z74954.toInt) (by decide : (4 : Int32).toInt = 4) c74955
      refine lv_iconst (v := 0) hx hb dX3_isLineTooMany_91 (by decide) ?_
      exact t_zret hQ X hT (by decide) (⟨rfl, (by decide)⟩) (Nat.le_of_ble_eq_true rfl) (Nat.le_of_ble_eq_true rfl) dX3_isLineTooMany_92
    · have w74957 := cv_nlt (rfl : z74954.toInt = z74954.toInt) (by decide : (4 : Int32).toInt = 4) c74955
      refine lv_iconst (v := 1) hx hb dX3_isLineTooMany_87 (by decide) ?_
      refine lv_goto (tgt := 92) hx hb dX3_isLineTooMany_88 (by decide) ?_
      exact t_zret hQ X hT (by decide) (⟨rfl, (by decide)⟩) (Nat.le_of_ble_eq_true rfl) (Nat.le_of_ble_eq_true rfl) dX3_isLineTooMany_92
  have w74958 := cv_ne (rfl : p1.toInt = p1.toInt) (by decide : (4 : Int32).toInt = 4) c74950
  by_cases c74959 : p1 = 5
  · have w74960 := cv_eq (rfl : p1.toInt = p1.toInt) (by decide : (5 : Int32).toInt = 5) c74959
    refine lv_tableIn (off := 143) (tgt := 144) hx hb dX3_isLineTooMany_1 (by rw [c74959]; decide) (by rw [c74959]; decide) (by rw [c74959]; decide) (by decide) ?_
    refine lv_iconst (v := 0) hx hb dX3_isLineTooMany_144 (by decide) ?_
    exact t_zret hQ X hT (by decide) (⟨rfl, (by decide)⟩) (Nat.le_of_ble_eq_true rfl) (Nat.le_of_ble_eq_true rfl) dX3_isLineTooMany_145
  have w74961 := cv_ne (rfl : p1.toInt = p1.toInt) (by decide : (5 : Int32).toInt = 5) c74959
  by_cases c74962 : p1 = 6
  · have w74963 := cv_eq (rfl : p1.toInt = p1.toInt) (by decide : (6 : Int32).toInt = 6) c74962
    refine lv_tableIn (off := 92) (tgt := 93) hx hb dX3_isLineTooMany_1 (by rw [c74962]; decide) (by rw [c74962]; decide) (by rw [c74962]; decide) (by decide) ?_
    refine lv_aload_n hx hb dX3_isLineTooMany_93 rfl (lv_at hl 0 rfl) ?_
    refine t_get (C := RX3) (T := TX3) (N := 13) X hT m0 g0 rfl rfl 1 (by decide) qw_161 inlX3 rfl dX3_isLineTooMany_94 (fun v74964 hv74964 ov74964 => ?_)
    obtain rfl : v74964 = .ref x1 := hv74964.symm.trans pf1
    refine t_get (C := RX1) (T := TX1) (N := 20) X hT mx1 gx1 rfl rfl 14 (by decide) qw_303 inlX1 rfl dX3_isLineTooMany_97 (fun v74965 hv74965 ov74965 => ?_)
    obtain ⟨z74966, rfl, rz74966⟩ := okV_i ov74965
    refine lv_bipush (v := 6) hx hb dX3_isLineTooMany_100 (by decide) ?_
    refine lv_icmp_lt (tgt := 109) hx hb dX3_isLineTooMany_102 (by decide) (fun c74967 => ?_) (fun c74967 => ?_)
    · have w74968 := cv_lt (rfl : z74966.toInt = z74966.toInt) (by decide : (6 : Int32).toInt = 6) c74967
      refine lv_iconst (v := 0) hx hb dX3_isLineTooMany_109 (by decide) ?_
      exact t_zret hQ X hT (by decide) (⟨rfl, (by decide)⟩) (Nat.le_of_ble_eq_true rfl) (Nat.le_of_ble_eq_true rfl) dX3_isLineTooMany_110
    · have w74969 := cv_nlt (rfl : z74966.toInt = z74966.toInt) (by decide : (6 : Int32).toInt = 6) c74967
      refine lv_iconst (v := 1) hx hb dX3_isLineTooMany_105 (by decide) ?_
      refine lv_goto (tgt := 110) hx hb dX3_isLineTooMany_106 (by decide) ?_
      exact t_zret hQ X hT (by decide) (⟨rfl, (by decide)⟩) (Nat.le_of_ble_eq_true rfl) (Nat.le_of_ble_eq_true rfl) dX3_isLineTooMany_110
  have w74970 := cv_ne (rfl : p1.toInt = p1.toInt) (by decide : (6 : Int32).toInt = 6) c74962
  by_cases c74971 : p1 = 7
  · have w74972 := cv_eq (rfl : p1.toInt = p1.toInt) (by decide : (7 : Int32).toInt = 7) c74971
    refine lv_tableIn (off := 110) (tgt := 111) hx hb dX3_isLineTooMany_1 (by rw [c74971]; decide) (by rw [c74971]; decide) (by rw [c74971]; decide) (by decide) ?_
    refine lv_aload_n hx hb dX3_isLineTooMany_111 rfl (lv_at hl 0 rfl) ?_
    refine t_get (C := RX3) (T := TX3) (N := 13) X hT m0 g0 rfl rfl 1 (by decide) qw_161 inlX3 rfl dX3_isLineTooMany_112 (fun v74973 hv74973 ov74973 => ?_)
    obtain rfl : v74973 = .ref x1 := hv74973.symm.trans pf1
    refine t_get (C := RX1) (T := TX1) (N := 20) X hT mx1 gx1 rfl rfl 16 (by decide) qw_304 inlX1 rfl dX3_isLineTooMany_115 (fun v74974 hv74974 ov74974 => ?_)
    obtain ⟨z74975, rfl, rz74975⟩ := okV_i ov74974
    refine lv_bipush (v := 6) hx hb dX3_isLineTooMany_118 (by decide) ?_
    refine lv_icmp_lt (tgt := 127) hx hb dX3_isLineTooMany_120 (by decide) (fun c74976 => ?_) (fun c74976 => ?_)
    · have w74977 := cv_lt (rfl : z74975.toInt = z74975.toInt) (by decide : (6 : Int32).toInt = 6) c74976
      refine lv_iconst (v := 0) hx hb dX3_isLineTooMany_127 (by decide) ?_
      exact t_zret hQ X hT (by decide) (⟨rfl, (by decide)⟩) (Nat.le_of_ble_eq_true rfl) (Nat.le_of_ble_eq_true rfl) dX3_isLineTooMany_128
    · have w74978 := cv_nlt (rfl : z74975.toInt = z74975.toInt) (by decide : (6 : Int32).toInt = 6) c74976
      refine lv_iconst (v := 1) hx hb dX3_isLineTooMany_123 (by decide) ?_
      refine lv_goto (tgt := 128) hx hb dX3_isLineTooMany_124 (by decide) ?_
      exact t_zret hQ X hT (by decide) (⟨rfl, (by decide)⟩) (Nat.le_of_ble_eq_true rfl) (Nat.le_of_ble_eq_true rfl) dX3_isLineTooMany_128
  have w74979 := cv_ne (rfl : p1.toInt = p1.toInt) (by decide : (7 : Int32).toInt = 7) c74971
  by_cases c74980 : p1 = 8
  · have w74981 := cv_eq (rfl : p1.toInt = p1.toInt) (by decide : (8 : Int32).toInt = 8) c74980
    refine lv_tableIn (off := 128) (tgt := 129) hx hb dX3_isLineTooMany_1 (by rw [c74980]; decide) (by rw [c74980]; decide) (by rw [c74980]; decide) (by decide) ?_
    refine lv_aload_n hx hb dX3_isLineTooMany_129 rfl (lv_at hl 0 rfl) ?_
    refine t_get (C := RX3) (T := TX3) (N := 13) X hT m0 g0 rfl rfl 8 (by decide) qw_168 inlX3 rfl dX3_isLineTooMany_130 (fun v74982 hv74982 ov74982 => ?_)
    obtain ⟨z74983, rfl, rz74983⟩ := okV_i ov74982
    refine lv_bipush (v := 8) hx hb dX3_isLineTooMany_133 (by decide) ?_
    refine lv_icmp_lt (tgt := 142) hx hb dX3_isLineTooMany_135 (by decide) (fun c74984 => ?_) (fun c74984 => ?_)
    · have w74985 := cv_lt (rfl : z74983.toInt = z74983.toInt) (by decide : (8 : Int32).toInt = 8) c74984
      refine lv_iconst (v := 0) hx hb dX3_isLineTooMany_142 (by decide) ?_
      exact t_zret hQ X hT (by decide) (⟨rfl, (by decide)⟩) (Nat.le_of_ble_eq_true rfl) (Nat.le_of_ble_eq_true rfl) dX3_isLineTooMany_143
    · have w74986 := cv_nlt (rfl : z74983.toInt = z74983.toInt) (by decide : (8 : Int32).toInt = 8) c74984
      refine lv_iconst (v := 1) hx hb dX3_isLineTooMany_138 (by decide) ?_
      refine lv_goto (tgt := 143) hx hb dX3_isLineTooMany_139 (by decide) ?_
      exact t_zret hQ X hT (by decide) (⟨rfl, (by decide)⟩) (Nat.le_of_ble_eq_true rfl) (Nat.le_of_ble_eq_true rfl) dX3_isLineTooMany_143
  have w74987 := cv_ne (rfl : p1.toInt = p1.toInt) (by decide : (8 : Int32).toInt = 8) c74980
  refine lv_tableOut (tgt := 144) hx hb dX3_isLineTooMany_1 (by omega) (by decide) ?_
  refine lv_iconst (v := 0) hx hb dX3_isLineTooMany_144 (by decide) ?_
  exact t_zret hQ X hT (by decide) (⟨rfl, (by decide)⟩) (Nat.le_of_ble_eq_true rfl) (Nat.le_of_ble_eq_true rfl) dX3_isLineTooMany_145
set_option maxHeartbeats 4000000 in
set_option maxRecDepth 100000 in
theorem kt213_X3_whole (l : Launch) (G : KG) (tag : Nat → Nat) (L : List Nat) (Fo : Nat → va_E) (ho : okT G ttC tag L Fo) (p0 : Nat) (p1 : Int32) (p2 : Int32) (x0 : Nat) (x1 : Nat) (x2 : Nat) (x3 : Nat) (m0 : p0 ∈ L) (g0 : tag p0 = 25) (mx0 : x0 ∈ L) (gx0 : tag x0 = 24) (pf0 : fld Fo p0 0 = .ref x0) (mx1 : x1 ∈ L) (gx1 : tag x1 = 18) (pf1 : fld Fo p0 1 = .ref x1) (mx2 : x2 ∈ L) (gx2 : tag x2 = 19) (pf2 : fld Fo p0 2 = .ref x2) (mx3 : x3 ∈ L) (gx3 : tag x3 = 1) (pf3 : fld Fo x0 0 = .ref x3) : TMi l yX3_whole cX3_whole 4 (some .int) { frames := 3, cells := 0, slots := 0, locals := 62 } G ttC tag L Fo [.ref p0, .int p1, .int p2] (fun r F1 => ((-2147483648) ≤ r.toInt ∧ r.toInt ≤ 2147483647) ∧ (∀ b j : Nat, (tag b ≠ 24 ∨ j ≠ 2) → (tag b ≠ 24 ∨ j ≠ 3) → (tag b ≠ 24 ∨ j ≠ 4) → (tag b ≠ 24 ∨ j ≠ 5) → (tag b ≠ 24 ∨ j ≠ 6) → (tag b ≠ 24 ∨ j ≠ 7) → (tag b ≠ 25 ∨ j ≠ 3) → (tag b ≠ 25 ∨ j ≠ 4) → fld F1 b j = fld Fo b j)) := by
  refine t_bodyi (y := yX3_whole) (cd := cX3_whole) (mL := 4) (rt := (some .int)) (rm := { frames := 3, cells := 0, slots := 0, locals := 62 }) (av := [.ref p0, .int p1, .int p2]) (by decide) (Nat.le_of_ble_eq_true rfl) ho ?_
  intro p e s m args below meth c ls A Q hQ X hT hl
  have hx := X.1.1
  have hb := X.1.2.1
  have hl : lv_has ls 4 [(0, .ref p0), (1, .int p1), (2, .int p2)] := hl
  have rp1 := rg_all p1
  have rp2 := rg_all p2
  obtain ⟨F, hFo⟩ : ∃ F : Nat → va_E, F = Fo := ⟨_, rfl⟩
  rw [← hFo] at hT
  have hfr : ∀ b j : Nat, (tag b ≠ 24 ∨ j ≠ 2) → (tag b ≠ 24 ∨ j ≠ 3) → (tag b ≠ 24 ∨ j ≠ 4) → (tag b ≠ 24 ∨ j ≠ 5) → (tag b ≠ 24 ∨ j ≠ 6) → (tag b ≠ 24 ∨ j ≠ 7) → (tag b ≠ 25 ∨ j ≠ 3) → (tag b ≠ 25 ∨ j ≠ 4) → fld F b j = fld Fo b j := by
    rw [hFo]
    intros
    rfl
  have K60 : ∀  (F : Nat → va_E) (H : Heap) (locs : List Loc) (ls : Array Slot), TH G ttC A s tag L F H locs → (∀ b j : Nat, (tag b ≠ 24 ∨ j ≠ 2) → (tag b ≠ 24 ∨ j ≠ 3) → (tag b ≠ 24 ∨ j ≠ 4) → (tag b ≠ 24 ∨ j ≠ 5) → (tag b ≠ 24 ∨ j ≠ 6) → (tag b ≠ 24 ∨ j ≠ 7) → (tag b ≠ 25 ∨ j ≠ 3) → (tag b ≠ 25 ∨ j ≠ 4) → fld F b j = fld Fo b j) → fld F p0 0 = .ref x0 → fld F p0 1 = .ref x1 → fld F p0 2 = .ref x2 → fld F x0 0 = .ref x3 → lv_has ls 4 [(0, .ref p0), (1, .int p1), (2, .int p2)] → W p l e { frames := 3, cells := 0, slots := 0, locals := 62 } s m args below meth c H locs 0 0 Q (F0 m 60 ls []) := by
    intro F H locs ls hT hfr pf0 pf1 pf2 pf3 hl
    refine lv_aload_n hx hb dX3_whole_60 rfl (lv_at hl 0 rfl) ?_
    refine t_get (C := RX3) (T := TX3) (N := 13) X hT m0 g0 rfl rfl 3 (by decide) qw_163 inlX3 rfl dX3_whole_61 (fun v75557 hv75557 ov75557 => ?_)
    obtain ⟨z75558, rfl, rz75558⟩ := okV_i ov75557
    refine lv_if_eq (tgt := 69) hx hb dX3_whole_64 (by decide) (fun c75559 => ?_) (fun c75559 => ?_)
    · have w75560 := cv_eq (rfl : z75558.toInt = z75558.toInt) (by decide : (0 : Int32).toInt = 0) c75559
      refine lv_aload_n hx hb dX3_whole_69 rfl (lv_at hl 0 rfl) ?_
      refine t_get (C := RX3) (T := TX3) (N := 13) X hT m0 g0 rfl rfl 0 (by decide) qw_73 inlX3 rfl dX3_whole_70 (fun v75561 hv75561 ov75561 => ?_)
      obtain rfl : v75561 = .ref x0 := hv75561.symm.trans pf0
      refine t_get (C := RX8) (T := TX8) (N := 8) X hT mx0 gx0 rfl rfl 6 (by decide) qw_322 inlX8 rfl dX3_whole_73 (fun v75562 hv75562 ov75562 => ?_)
      obtain ⟨z75563, rfl, rz75563⟩ := okV_i ov75562
      refine lv_istore_n (lv' := [(3, .int z75563), (0, .ref p0), (1, .int p1), (2, .int p2)]) hx hb dX3_whole_76 rfl hl (by decide) rfl (fun ls hl => ?_)
      refine lv_aload_n hx hb dX3_whole_77 rfl (lv_at hl 1 rfl) ?_
      refine t_get (C := RX3) (T := TX3) (N := 13) X hT m0 g0 rfl rfl 0 (by decide) qw_73 inlX3 rfl dX3_whole_78 (fun v75564 hv75564 ov75564 => ?_)
      obtain rfl : v75564 = .ref x0 := hv75564.symm.trans pf0
      refine t_cVv (n := 0) (C := RX8) (T := TX8) (N := 8) (As := []) (rest := []) X hT (kt144_X8_advance l G tag L F hT.2.2.2 x0 x3 mx0 gx0 mx3 gx3 pf3) mx0 gx0 rfl rfl qw_305 qw_197 qw_198 qw_72 qw_199 ⟨rfl, by decide +kernel, by decide +kernel, by decide +kernel⟩ ⟨Nat.le_of_ble_eq_true rfl, Nat.le_of_ble_eq_true rfl⟩ hl rfl rfl (Nat.le_of_ble_eq_true rfl) dX3_whole_81 ⟨Nat.le_of_ble_eq_true rfl, Nat.le_of_ble_eq_true rfl⟩ (fun F H locs hT hz75565 => ?_)
      have yz75565 := hz75565
      have pf0 := (yz75565 _ 0 (Or.inr (by decide)) (Or.inr (by decide)) (Or.inr (by decide)) (Or.inr (by decide)) (Or.inr (by decide)) (Or.inr (by decide))).trans pf0
      have pf1 := (yz75565 _ 1 (Or.inr (by decide)) (Or.inr (by decide)) (Or.inr (by decide)) (Or.inr (by decide)) (Or.inr (by decide)) (Or.inr (by decide))).trans pf1
      have pf2 := (yz75565 _ 2 (Or.inl (by rw [g0]; decide)) (Or.inr (by decide)) (Or.inr (by decide)) (Or.inr (by decide)) (Or.inr (by decide)) (Or.inr (by decide))).trans pf2
      have pf3 := (yz75565 _ 0 (Or.inr (by decide)) (Or.inr (by decide)) (Or.inr (by decide)) (Or.inr (by decide)) (Or.inr (by decide)) (Or.inr (by decide))).trans pf3
      have hv75557 := (yz75565 _ 3 (Or.inr (by decide)) (Or.inl (by rw [g0]; decide)) (Or.inr (by decide)) (Or.inr (by decide)) (Or.inr (by decide)) (Or.inr (by decide))).trans hv75557
      have hfr : ∀ b j : Nat, (tag b ≠ 24 ∨ j ≠ 2) → (tag b ≠ 24 ∨ j ≠ 3) → (tag b ≠ 24 ∨ j ≠ 4) → (tag b ≠ 24 ∨ j ≠ 5) → (tag b ≠ 24 ∨ j ≠ 6) → (tag b ≠ 24 ∨ j ≠ 7) → (tag b ≠ 25 ∨ j ≠ 3) → (tag b ≠ 25 ∨ j ≠ 4) → fld F b j = fld Fo b j := fun b j n24_2 n24_3 n24_4 n24_5 n24_6 n24_7 n25_3 n25_4 => (yz75565 b j n24_2 n24_3 n24_4 n24_5 n24_6 n24_7).trans (hfr b j n24_2 n24_3 n24_4 n24_5 n24_6 n24_7 n25_3 n25_4)
      refine lv_iload_n hx hb dX3_whole_84 rfl (lv_at hl 0 rfl) ?_
      exact t_iret hQ X hT (⟨rg_all _, hfr⟩) (Nat.le_of_ble_eq_true rfl) (Nat.le_of_ble_eq_true rfl) dX3_whole_85
    · have w75566 := cv_ne (rfl : z75558.toInt = z75558.toInt) (by decide : (0 : Int32).toInt = 0) c75559
      refine lv_iload_n hx hb dX3_whole_67 rfl (lv_at hl 1 rfl) ?_
      exact t_iret hQ X hT (⟨rg_all _, hfr⟩) (Nat.le_of_ble_eq_true rfl) (Nat.le_of_ble_eq_true rfl) dX3_whole_68
  have K48 : ∀  (F : Nat → va_E) (H : Heap) (locs : List Loc) (ls : Array Slot), TH G ttC A s tag L F H locs → (∀ b j : Nat, (tag b ≠ 24 ∨ j ≠ 2) → (tag b ≠ 24 ∨ j ≠ 3) → (tag b ≠ 24 ∨ j ≠ 4) → (tag b ≠ 24 ∨ j ≠ 5) → (tag b ≠ 24 ∨ j ≠ 6) → (tag b ≠ 24 ∨ j ≠ 7) → (tag b ≠ 25 ∨ j ≠ 3) → (tag b ≠ 25 ∨ j ≠ 4) → fld F b j = fld Fo b j) → fld F p0 0 = .ref x0 → fld F p0 1 = .ref x1 → fld F p0 2 = .ref x2 → fld F x0 0 = .ref x3 → lv_has ls 4 [(0, .ref p0), (1, .int p1), (2, .int p2)] → W p l e { frames := 3, cells := 0, slots := 0, locals := 62 } s m args below meth c H locs 0 0 Q (F0 m 48 ls []) := by
    intro F H locs ls hT hfr pf0 pf1 pf2 pf3 hl
    refine lv_aload_n hx hb dX3_whole_48 rfl (lv_at hl 0 rfl) ?_
    refine lv_iconst (v := 4) hx hb dX3_whole_49 (by decide) ?_
    refine lv_aload_n hx hb dX3_whole_50 rfl (lv_at hl 0 rfl) ?_
    refine t_get (C := RX3) (T := TX3) (N := 13) X hT m0 g0 rfl rfl 0 (by decide) qw_73 inlX3 rfl dX3_whole_51 (fun v75567 hv75567 ov75567 => ?_)
    obtain rfl : v75567 = .ref x0 := hv75567.symm.trans pf0
    refine t_get (C := RX8) (T := TX8) (N := 8) X hT mx0 gx0 rfl rfl 4 (by decide) qw_227 inlX8 rfl dX3_whole_54 (fun v75568 hv75568 ov75568 => ?_)
    obtain ⟨z75569, rfl, rz75569⟩ := okV_i ov75568
    refine t_cVv (n := 2) (C := RX3) (T := TX3) (N := 13) (As := [.int 4, .int z75569]) (rest := []) X hT (kt207_X3_fail l G tag L F hT.2.2.2 p0 4 z75569 m0 g0) m0 g0 rfl rfl qw_287 qw_288 qw_289 qw_28 qw_290 ⟨rfl, by decide +kernel, by decide +kernel, by decide +kernel⟩ ⟨Nat.le_of_ble_eq_true rfl, Nat.le_of_ble_eq_true rfl⟩ hl rfl rfl (Nat.le_of_ble_eq_true rfl) dX3_whole_57 ⟨Nat.le_of_ble_eq_true rfl, Nat.le_of_ble_eq_true rfl⟩ (fun F H locs hT hz75570 => ?_)
    have yz75570 := hz75570
    have pf0 := (yz75570 _ 0 (Or.inr (by decide)) (Or.inr (by decide))).trans pf0
    have pf1 := (yz75570 _ 1 (Or.inr (by decide)) (Or.inr (by decide))).trans pf1
    have pf2 := (yz75570 _ 2 (Or.inr (by decide)) (Or.inr (by decide))).trans pf2
    have pf3 := (yz75570 _ 0 (Or.inr (by decide)) (Or.inr (by decide))).trans pf3
    have hv75568 := (yz75570 _ 4 (Or.inr (by decide)) (Or.inl (by rw [gx0]; decide))).trans hv75568
    have hfr : ∀ b j : Nat, (tag b ≠ 24 ∨ j ≠ 2) → (tag b ≠ 24 ∨ j ≠ 3) → (tag b ≠ 24 ∨ j ≠ 4) → (tag b ≠ 24 ∨ j ≠ 5) → (tag b ≠ 24 ∨ j ≠ 6) → (tag b ≠ 24 ∨ j ≠ 7) → (tag b ≠ 25 ∨ j ≠ 3) → (tag b ≠ 25 ∨ j ≠ 4) → fld F b j = fld Fo b j := fun b j n24_2 n24_3 n24_4 n24_5 n24_6 n24_7 n25_3 n25_4 => (yz75570 b j n25_3 n25_4).trans (hfr b j n24_2 n24_3 n24_4 n24_5 n24_6 n24_7 n25_3 n25_4)
    exact K60  _ _ _ _  hT hfr pf0 pf1 pf2 pf3 (lv_sub hl [0, 1, 2] rfl)
  refine lv_aload_n hx hb dX3_whole_0 rfl (lv_at hl 0 rfl) ?_
  refine t_get (C := RX3) (T := TX3) (N := 13) X hT m0 g0 rfl rfl 0 (by decide) qw_73 inlX3 rfl dX3_whole_1 (fun v75571 hv75571 ov75571 => ?_)
  obtain rfl : v75571 = .ref x0 := hv75571.symm.trans pf0
  refine t_get (C := RX8) (T := TX8) (N := 8) X hT mx0 gx0 rfl rfl 3 (by decide) qw_170 inlX8 rfl dX3_whole_4 (fun v75572 hv75572 ov75572 => ?_)
  obtain ⟨z75573, rfl, rz75573⟩ := okV_i ov75572
  refine lv_iconst (v := 2) hx hb dX3_whole_7 (by decide) ?_
  refine lv_icmp_eq (tgt := 26) hx hb dX3_whole_8 (by decide) (fun c75574 => ?_) (fun c75574 => ?_)
  · have w75575 := cv_eq (rfl : z75573.toInt = z75573.toInt) (by decide : (2 : Int32).toInt = 2) c75574
    refine lv_aload_n hx hb dX3_whole_26 rfl (lv_at hl 0 rfl) ?_
    refine t_get (C := RX3) (T := TX3) (N := 13) X hT m0 g0 rfl rfl 0 (by decide) qw_73 inlX3 rfl dX3_whole_27 (fun v75576 hv75576 ov75576 => ?_)
    obtain rfl : v75576 = .ref x0 := hv75576.symm.trans pf0
    refine t_get (C := RX8) (T := TX8) (N := 8) X hT mx0 gx0 rfl rfl 6 (by decide) qw_322 inlX8 rfl dX3_whole_30 (fun v75577 hv75577 ov75577 => ?_)
    obtain ⟨z75578, rfl, rz75578⟩ := okV_i ov75577
    refine lv_iload_n hx hb dX3_whole_33 rfl (lv_at hl 1 rfl) ?_
    refine lv_icmp_lt (tgt := 48) hx hb dX3_whole_34 (by decide) (fun c75579 => ?_) (fun c75579 => ?_)
    · have w75580 := cv_lt (rfl : z75578.toInt = z75578.toInt) (rfl : p1.toInt = p1.toInt) c75579
      exact K48  _ _ _ _  hT hfr pf0 pf1 pf2 pf3 (lv_sub hl [0, 1, 2] rfl)
    · have w75581 := cv_nlt (rfl : z75578.toInt = z75578.toInt) (rfl : p1.toInt = p1.toInt) c75579
      refine lv_aload_n hx hb dX3_whole_37 rfl (lv_at hl 0 rfl) ?_
      refine t_get (C := RX3) (T := TX3) (N := 13) X hT m0 g0 rfl rfl 0 (by decide) qw_73 inlX3 rfl dX3_whole_38 (fun v75582 hv75582 ov75582 => ?_)
      obtain rfl : v75582 = .ref x0 := hv75582.symm.trans pf0
      refine t_get (C := RX8) (T := TX8) (N := 8) X hT mx0 gx0 rfl rfl 6 (by decide) qw_322 inlX8 rfl dX3_whole_41 (fun v75583 hv75583 ov75583 => ?_)
      obtain rfl : v75583 = .int z75578 := hv75583.symm.trans hv75577
      refine lv_iload_n hx hb dX3_whole_44 rfl (lv_at hl 2 rfl) ?_
      refine lv_icmp_le (tgt := 60) hx hb dX3_whole_45 (by decide) (fun c75584 => ?_) (fun c75584 => ?_)
      · have w75585 := cv_le (rfl : z75578.toInt = z75578.toInt) (rfl : p2.toInt = p2.toInt) c75584
        exact K60  _ _ _ _  hT hfr pf0 pf1 pf2 pf3 (lv_sub hl [0, 1, 2] rfl)
      · have w75586 := cv_nle (rfl : z75578.toInt = z75578.toInt) (rfl : p2.toInt = p2.toInt) c75584
        exact K48  _ _ _ _  hT hfr pf0 pf1 pf2 pf3 (lv_sub hl [0, 1, 2] rfl)
  · have w75587 := cv_ne (rfl : z75573.toInt = z75573.toInt) (by decide : (2 : Int32).toInt = 2) c75574
    refine lv_aload_n hx hb dX3_whole_11 rfl (lv_at hl 0 rfl) ?_
    refine lv_iconst (v := 1) hx hb dX3_whole_12 (by decide) ?_
    refine lv_aload_n hx hb dX3_whole_13 rfl (lv_at hl 0 rfl) ?_
    refine t_get (C := RX3) (T := TX3) (N := 13) X hT m0 g0 rfl rfl 0 (by decide) qw_73 inlX3 rfl dX3_whole_14 (fun v75588 hv75588 ov75588 => ?_)
    obtain rfl : v75588 = .ref x0 := hv75588.symm.trans pf0
    refine t_get (C := RX8) (T := TX8) (N := 8) X hT mx0 gx0 rfl rfl 4 (by decide) qw_227 inlX8 rfl dX3_whole_17 (fun v75589 hv75589 ov75589 => ?_)
    obtain ⟨z75590, rfl, rz75590⟩ := okV_i ov75589
    refine t_cVv (n := 2) (C := RX3) (T := TX3) (N := 13) (As := [.int 1, .int z75590]) (rest := []) X hT (kt207_X3_fail l G tag L F hT.2.2.2 p0 1 z75590 m0 g0) m0 g0 rfl rfl qw_287 qw_288 qw_289 qw_28 qw_290 ⟨rfl, by decide +kernel, by decide +kernel, by decide +kernel⟩ ⟨Nat.le_of_ble_eq_true rfl, Nat.le_of_ble_eq_true rfl⟩ hl rfl rfl (Nat.le_of_ble_eq_true rfl) dX3_whole_20 ⟨Nat.le_of_ble_eq_true rfl, Nat.le_of_ble_eq_true rfl⟩ (fun F H locs hT hz75591 => ?_)
    have yz75591 := hz75591
    have pf0 := (yz75591 _ 0 (Or.inr (by decide)) (Or.inr (by decide))).trans pf0
    have pf1 := (yz75591 _ 1 (Or.inr (by decide)) (Or.inr (by decide))).trans pf1
    have pf2 := (yz75591 _ 2 (Or.inr (by decide)) (Or.inr (by decide))).trans pf2
    have pf3 := (yz75591 _ 0 (Or.inr (by decide)) (Or.inr (by decide))).trans pf3
    have hv75572 := (yz75591 _ 3 (Or.inl (by rw [gx0]; decide)) (Or.inr (by decide))).trans hv75572
    have hv75589 := (yz75591 _ 4 (Or.inr (by decide)) (Or.inl (by rw [gx0]; decide))).trans hv75589
    have hfr : ∀ b j : Nat, (tag b ≠ 24 ∨ j ≠ 2) → (tag b ≠ 24 ∨ j ≠ 3) → (tag b ≠ 24 ∨ j ≠ 4) → (tag b ≠ 24 ∨ j ≠ 5) → (tag b ≠ 24 ∨ j ≠ 6) → (tag b ≠ 24 ∨ j ≠ 7) → (tag b ≠ 25 ∨ j ≠ 3) → (tag b ≠ 25 ∨ j ≠ 4) → fld F b j = fld Fo b j := fun b j n24_2 n24_3 n24_4 n24_5 n24_6 n24_7 n25_3 n25_4 => (yz75591 b j n25_3 n25_4).trans (hfr b j n24_2 n24_3 n24_4 n24_5 n24_6 n24_7 n25_3 n25_4)
    refine lv_goto (tgt := 60) hx hb dX3_whole_23 (by decide) ?_
    exact K60  _ _ _ _  hT hfr pf0 pf1 pf2 pf3 (lv_sub hl [0, 1, 2] rfl)
