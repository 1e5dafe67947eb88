set_option maxHeartbeats 4000000 in
set_option maxRecDepth 100000 in
theorem kt41_X0_cheapest (l : Launch) (G : KG) (tag : Nat → Nat) (L : List Nat) (Fo : Nat → va_E) (ho : okT G ttC tag L Fo) (p0 : Nat) (p1 : Nat) (p2 : Nat) (p3 : Int32) (p4 : Int32) (m0 : p0 ∈ L) (g0 : tag p0 = 21) (m1 : p1 ∈ L) (g1 : tag p1 = 18) (m2 : p2 ∈ L) (g2 : tag p2 = 19) (h3 : 0 ≤ p3.toInt ∧ p3.toInt ≤ 3) : TMi l yX0_cheapest cX0_cheapest 9 (some .int) { frames := 5, cells := 0, slots := 0, locals := 121 } G ttC tag L Fo [.ref p0, .ref p1, .ref p2, .int p3, .int p4] (fun r F1 => ((-2147483648) ≤ r.toInt ∧ r.toInt ≤ 1000008) ∧ ((∀ b j : Nat, (tag b ≠ 21 ∨ j ≠ 0) → (tag b ≠ 21 ∨ j ≠ 1) → fld F1 b j = fld Fo b j) ∧ EF tag F1 Fo)) := by
  refine t_bodyi (y := yX0_cheapest) (cd := cX0_cheapest) (mL := 9) (rt := (some .int)) (rm := { frames := 5, cells := 0, slots := 0, locals := 121 }) (av := [.ref p0, .ref p1, .ref p2, .int p3, .int p4]) (by decide) (Nat.le_of_ble_eq_true rfl) ho ?_
  intro p e s m args below meth c ls A Q hQ X hT hl
  have hx := X.1.1
  have hb := X.1.2.1
  have hl : lv_has ls 9 [(0, .ref p0), (1, .ref p1), (2, .ref p2), (3, .int p3), (4, .int p4)] := hl
  have rp4 := rg_all p4
  obtain ⟨F, hFo⟩ : ∃ F : Nat → va_E, F = Fo := ⟨_, rfl⟩
  rw [← hFo] at hT
  have hfr : (∀ b j : Nat, (tag b ≠ 21 ∨ j ≠ 0) → (tag b ≠ 21 ∨ j ≠ 1) → fld F b j = fld Fo b j) ∧ EF tag F Fo := by
    rw [hFo]
    exact ⟨by intros; rfl, fun _ _ _ => rfl⟩
  have K91 : ∀ (n : Nat) (z12590 : Int32) (z12591 : Int32) (z12592 : Int32) (z12593 : Int32) (F : Nat → va_E) (H : Heap) (locs : List Loc) (ls : Array Slot), (z12593.toInt - 0 < (n : Int)) → (1 ≤ z12590.toInt ∧ z12590.toInt ≤ 6) → (1 ≤ z12591.toInt ∧ z12591.toInt ≤ 2147483647) → (0 ≤ z12593.toInt ∧ z12593.toInt ≤ 5) → TH G ttC A s tag L F H locs → ((∀ b j : Nat, (tag b ≠ 21 ∨ j ≠ 0) → (tag b ≠ 21 ∨ j ≠ 1) → fld F b j = fld Fo b j) ∧ EF tag F Fo) → lv_has ls 9 [(0, .ref p0), (1, .ref p1), (2, .ref p2), (3, .int p3), (4, .int p4), (5, .int z12590), (6, .int z12591), (7, .int z12592), (8, .int z12593)] → W p l e { frames := 5, cells := 0, slots := 0, locals := 121 } s m args below meth c H locs 0 0 Q (F0 m 91 ls []) := by
    intro n
    induction n with
    | zero =>
      intro z12590 z12591 z12592 z12593 F H locs ls hn rz12590 rz12591 rz12593 hT hfr hl
      have rz12592 := rg_all z12592
      exfalso
      omega
    | succ n ih91 =>
      intro z12590 z12591 z12592 z12593 F H locs ls hn rz12590 rz12591 rz12593 hT hfr hl
      have rz12592 := rg_all z12592
      refine lv_iload hx hb dX0_cheapest_91 (lv_at hl 8 rfl) ?_
      refine lv_iload hx hb dX0_cheapest_93 (lv_at hl 6 rfl) ?_
      refine lv_icmp_lt (tgt := 121) hx hb dX0_cheapest_95 (by decide) (fun c12594 => ?_) (fun c12594 => ?_)
      · have w12595 := cv_lt (rfl : z12593.toInt = z12593.toInt) (rfl : z12591.toInt = z12591.toInt) c12594
        refine lv_aload_n hx hb dX0_cheapest_121 rfl (lv_at hl 0 rfl) ?_
        refine lv_bipush (v := 8) hx hb dX0_cheapest_122 (by decide) ?_
        refine lv_iload hx hb dX0_cheapest_124 (lv_at hl 6 rfl) ?_
        refine lv_imul hx hb dX0_cheapest_126 ?_
        refine lv_topi (fun z12596 ez12596 => ?_)
        have rz12596 := rg_all z12596
        refine t_cVi (n := 1) (C := RX0) (T := TX0) (N := 2) (As := [.int z12596]) (rest := []) X hT (kt37_X0_least l G tag L F hT.2.2.2 p0 z12596 m0 g0) m0 g0 rfl rfl qw_1048 qw_1049 qw_1050 qw_36 qw_1051 ⟨rfl, by decide +kernel, by decide +kernel, by decide +kernel⟩ ⟨Nat.le_of_ble_eq_true rfl, Nat.le_of_ble_eq_true rfl⟩ hl rfl rfl (Nat.le_of_ble_eq_true rfl) dX0_cheapest_127 ⟨Nat.le_of_ble_eq_true rfl, Nat.le_of_ble_eq_true rfl⟩ (fun z12597 F9 H locs hT hz12597 => ?_)
        obtain ⟨fz12597, hz12597⟩ := hz12597
        rw [fz12597] at hT
        refine lv_iload hx hb dX0_cheapest_130 (lv_at hl 4 rfl) ?_
        refine lv_iconst (v := 1) hx hb dX0_cheapest_132 (by decide) ?_
        refine lv_icmp_ge (tgt := 141) hx hb dX0_cheapest_133 (by decide) (fun c12598 => ?_) (fun c12598 => ?_)
        · have w12599 := cv_le (by decide : (1 : Int32).toInt = 1) (rfl : p4.toInt = p4.toInt) c12598
          refine lv_iconst (v := 0) hx hb dX0_cheapest_141 (by decide) ?_
          refine lv_iadd hx hb dX0_cheapest_142 ?_
          refine lv_topi (fun z12600 ez12600 => ?_)
          have hz12600 : z12600.toInt = z12597.toInt + 0 := ar_add ez12600 (rfl : z12597.toInt = z12597.toInt) (by decide : (0 : Int32).toInt = 0) (by omega) (by omega)
          have rz12600 : (-2147483648) ≤ z12600.toInt ∧ z12600.toInt ≤ 1000000 := by omega
          exact t_iret hQ X hT (⟨(by omega), hfr⟩) (Nat.le_of_ble_eq_true rfl) (Nat.le_of_ble_eq_true rfl) dX0_cheapest_143
        · have w12601 := cv_nle (by decide : (1 : Int32).toInt = 1) (rfl : p4.toInt = p4.toInt) c12598
          refine lv_bipush (v := 8) hx hb dX0_cheapest_136 (by decide) ?_
          refine lv_goto (tgt := 142) hx hb dX0_cheapest_138 (by decide) ?_
          refine lv_iadd hx hb dX0_cheapest_142 ?_
          refine lv_topi (fun z12602 ez12602 => ?_)
          have hz12602 : z12602.toInt = z12597.toInt + 8 := ar_add ez12602 (rfl : z12597.toInt = z12597.toInt) (by decide : (8 : Int32).toInt = 8) (by omega) (by omega)
          have rz12602 : (-2147483640) ≤ z12602.toInt ∧ z12602.toInt ≤ 1000008 := by omega
          exact t_iret hQ X hT (⟨(by omega), hfr⟩) (Nat.le_of_ble_eq_true rfl) (Nat.le_of_ble_eq_true rfl) dX0_cheapest_143
      · have w12603 := cv_nlt (rfl : z12593.toInt = z12593.toInt) (rfl : z12591.toInt = z12591.toInt) c12594
        refine lv_aload_n hx hb dX0_cheapest_98 rfl (lv_at hl 0 rfl) ?_
        refine lv_iload hx hb dX0_cheapest_99 (lv_at hl 8 rfl) ?_
        refine lv_iconst (v := 1) hx hb dX0_cheapest_101 (by decide) ?_
        refine lv_iadd hx hb dX0_cheapest_102 ?_
        refine lv_topi (fun z12604 ez12604 => ?_)
        have hz12604 : z12604.toInt = z12593.toInt + 1 := ar_add ez12604 (rfl : z12593.toInt = z12593.toInt) (by decide : (1 : Int32).toInt = 1) (by omega) (by omega)
        have rz12604 : 2 ≤ z12604.toInt ∧ z12604.toInt ≤ 6 := by omega
        refine t_cVv (n := 1) (C := RX0) (T := TX0) (N := 2) (As := [.int z12604]) (rest := []) X hT (kt38_X0_goRound l G tag L F hT.2.2.2 p0 z12604 m0 g0) m0 g0 rfl rfl qw_1036 qw_1037 qw_1038 qw_36 qw_1039 ⟨rfl, by decide +kernel, by decide +kernel, by decide +kernel⟩ ⟨Nat.le_of_ble_eq_true rfl, Nat.le_of_ble_eq_true rfl⟩ hl rfl rfl (Nat.le_of_ble_eq_true rfl) dX0_cheapest_103 ⟨Nat.le_of_ble_eq_true rfl, Nat.le_of_ble_eq_true rfl⟩ (fun F H locs hT hz12605 => ?_)
        have yz12605 := hz12605
        have hfr : (∀ b j : Nat, (tag b ≠ 21 ∨ j ≠ 0) → (tag b ≠ 21 ∨ j ≠ 1) → fld F b j = fld Fo b j) ∧ EF tag F Fo := ⟨fun b j n21_0 n21_1 => (yz12605.1 b j ).trans (hfr.1 b j n21_0 n21_1), fun b j hb => (yz12605.2 b j hb).trans (hfr.2 b j hb)⟩
        refine lv_aload_n hx hb dX0_cheapest_106 rfl (lv_at hl 0 rfl) ?_
        refine lv_aload_n hx hb dX0_cheapest_107 rfl (lv_at hl 1 rfl) ?_
        refine lv_aload_n hx hb dX0_cheapest_108 rfl (lv_at hl 2 rfl) ?_
        refine lv_iload_n hx hb dX0_cheapest_109 rfl (lv_at hl 3 rfl) ?_
        refine lv_iload hx hb dX0_cheapest_110 (lv_at hl 8 rfl) ?_
        refine t_cVv (n := 4) (C := RX0) (T := TX0) (N := 2) (As := [.ref p1, .ref p2, .int p3, .int z12593]) (rest := []) X hT (kt40_X0_goIn l G tag L F hT.2.2.2 p0 p1 p2 p3 z12593 m0 g0 m1 g1 m2 g2 (by omega) (by omega)) m0 g0 rfl rfl qw_1040 qw_1041 qw_1042 qw_36 qw_1043 ⟨rfl, by decide +kernel, by decide +kernel, by decide +kernel⟩ ⟨Nat.le_of_ble_eq_true rfl, Nat.le_of_ble_eq_true rfl⟩ hl rfl rfl (Nat.le_of_ble_eq_true rfl) dX0_cheapest_112 ⟨Nat.le_of_ble_eq_true rfl, Nat.le_of_ble_eq_true rfl⟩ (fun F H locs hT hz12606 => ?_)
        have yz12606 := hz12606
        have hfr : (∀ b j : Nat, (tag b ≠ 21 ∨ j ≠ 0) → (tag b ≠ 21 ∨ j ≠ 1) → fld F b j = fld Fo b j) ∧ EF tag F Fo := ⟨fun b j n21_0 n21_1 => (yz12606.1 b j n21_0 n21_1).trans (hfr.1 b j n21_0 n21_1), fun b j hb => (yz12606.2 b j hb).trans (hfr.2 b j hb)⟩
        obtain ⟨z12607, ez12607⟩ : ∃ y : Int32, y = z12593 + (-1) := ⟨_, rfl⟩
        have hz12607 : z12607.toInt = z12593.toInt + (-1) := ar_add ez12607 rfl (by decide : ((-1) : Int32).toInt = (-1)) (by omega) (by omega)
        refine lv_iinc (v := z12607) (lv' := [(8, .int z12607), (0, .ref p0), (1, .ref p1), (2, .ref p2), (3, .int p3), (4, .int p4), (5, .int z12590), (6, .int z12591), (7, .int z12592)]) hx hb dX0_cheapest_115 hl (k := 8) rfl (by rw [ez12607]; rfl) (by decide) rfl (fun ls hl => ?_)
        refine lv_goto (tgt := 91) hx hb dX0_cheapest_118 (by decide) ?_
        exact ih91 z12590 z12591 z12592 z12607 _ _ _ _ (by omega) (by omega) (by omega) (by omega) hT hfr  (lv_sub hl [1, 2, 3, 4, 5, 6, 7, 8, 0] rfl)
  have K85 : ∀ (z12608 : Int32) (z12609 : Int32) (z12610 : Int32) (F : Nat → va_E) (H : Heap) (locs : List Loc) (ls : Array Slot), (1 ≤ z12608.toInt ∧ z12608.toInt ≤ 6) → (1 ≤ z12609.toInt ∧ z12609.toInt ≤ 2147483647) → TH G ttC A s tag L F H locs → ((∀ b j : Nat, (tag b ≠ 21 ∨ j ≠ 0) → (tag b ≠ 21 ∨ j ≠ 1) → fld F b j = fld Fo b j) ∧ EF tag F Fo) → lv_has ls 9 [(0, .ref p0), (1, .ref p1), (2, .ref p2), (3, .int p3), (4, .int p4), (5, .int z12608), (6, .int z12609), (7, .int z12610)] → W p l e { frames := 5, cells := 0, slots := 0, locals := 121 } s m args below meth c H locs 0 0 Q (F0 m 85 ls []) := by
    intro z12608 z12609 z12610 F H locs ls rz12608 rz12609 hT hfr hl
    have rz12610 := rg_all z12610
    refine lv_iload hx hb dX0_cheapest_85 (lv_at hl 5 rfl) ?_
    refine lv_iconst (v := 1) hx hb dX0_cheapest_87 (by decide) ?_
    refine lv_isub hx hb dX0_cheapest_88 ?_
    refine lv_topi (fun z12611 ez12611 => ?_)
    have hz12611 : z12611.toInt = z12608.toInt - 1 := ar_sub ez12611 (rfl : z12608.toInt = z12608.toInt) (by decide : (1 : Int32).toInt = 1) (by omega) (by omega)
    have rz12611 : 0 ≤ z12611.toInt ∧ z12611.toInt ≤ 5 := by omega
    refine lv_istore (lv' := [(8, .int z12611), (0, .ref p0), (1, .ref p1), (2, .ref p2), (3, .int p3), (4, .int p4), (5, .int z12608), (6, .int z12609), (7, .int z12610)]) hx hb dX0_cheapest_89 hl (by decide) rfl (fun ls hl => ?_)
    exact K91 6 z12608 z12609 z12610 z12611 _ _ _ _ (by omega) (by omega) (by omega) (by omega) hT hfr  (lv_sub hl [1, 2, 3, 4, 5, 6, 7, 8, 0] rfl)
  have K27 : ∀ (z12612 : Int32) (z12613 : Int32) (F : Nat → va_E) (H : Heap) (locs : List Loc) (ls : Array Slot), (1 ≤ z12612.toInt ∧ z12612.toInt ≤ 6) → (1 ≤ z12613.toInt ∧ z12613.toInt ≤ 2147483647) → TH G ttC A s tag L F H locs → ((∀ b j : Nat, (tag b ≠ 21 ∨ j ≠ 0) → (tag b ≠ 21 ∨ j ≠ 1) → fld F b j = fld Fo b j) ∧ EF tag F Fo) → lv_has ls 9 [(0, .ref p0), (1, .ref p1), (2, .ref p2), (3, .int p3), (4, .int p4), (5, .int z12612)] → W p l e { frames := 5, cells := 0, slots := 0, locals := 121 } s m args below meth c H locs 0 0 Q (F0 m 27 ls [.int z12613]) := by
    intro z12612 z12613 F H locs ls rz12612 rz12613 hT hfr hl
    refine lv_istore (lv' := [(6, .int z12613), (0, .ref p0), (1, .ref p1), (2, .ref p2), (3, .int p3), (4, .int p4), (5, .int z12612)]) hx hb dX0_cheapest_27 hl (by decide) rfl (fun ls hl => ?_)
    refine lv_aload_n hx hb dX0_cheapest_29 rfl (lv_at hl 1 rfl) ?_
    refine t_get (C := RX0) (T := TX0) (N := 2) X hT m0 g0 rfl rfl 0 (by decide) qw_88 inlX0 rfl dX0_cheapest_30 (fun v12614 hv12614 ov12614 => ?_)
    obtain ⟨b12615, rfl, mb12615, gb12615⟩ := okV_r ov12614
    have gb12615 : tag b12615 = 12 := tg_of gb12615
    refine t_cSv (n := 1) (As := [.ref b12615]) (rest := []) X hT (kt36_X0_empty l G tag L F hT.2.2.2 b12615 mb12615 gb12615) qw_1020 qw_1021 qw_36 qw_1022 ⟨by decide +kernel, by decide +kernel, by decide +kernel⟩ ⟨Nat.le_of_ble_eq_true rfl, Nat.le_of_ble_eq_true rfl⟩ hl rfl rfl (Nat.le_of_ble_eq_true rfl) dX0_cheapest_33 ⟨Nat.le_of_ble_eq_true rfl, Nat.le_of_ble_eq_true rfl⟩ (fun F H locs hT hz12616 => ?_)
    have yz12616 := hz12616
    have hv12614 := (yz12616.1 _ 0 ).trans hv12614
    have hfr : (∀ b j : Nat, (tag b ≠ 21 ∨ j ≠ 0) → (tag b ≠ 21 ∨ j ≠ 1) → fld F b j = fld Fo b j) ∧ EF tag F Fo := ⟨fun b j n21_0 n21_1 => (yz12616.1 b j ).trans (hfr.1 b j n21_0 n21_1), fun b j hb => (yz12616.2 b j hb).trans (hfr.2 b j hb)⟩
    refine lv_aload_n hx hb dX0_cheapest_36 rfl (lv_at hl 3 rfl) ?_
    refine lv_iload_n hx hb dX0_cheapest_37 rfl (lv_at hl 4 rfl) ?_
    refine lv_iload hx hb dX0_cheapest_38 (lv_at hl 6 rfl) ?_
    refine t_cVi (n := 2) (C := RX7) (T := TX7) (N := 7) (As := [.int p3, .int z12612]) (rest := []) X hT (kt24_X7_doorOf l G tag L F hT.2.2.2 p2 p3 z12612 m2 g2) m2 g2 rfl rfl qw_1024 qw_918 qw_919 qw_22 qw_920 ⟨rfl, by decide +kernel, by decide +kernel, by decide +kernel⟩ ⟨Nat.le_of_ble_eq_true rfl, Nat.le_of_ble_eq_true rfl⟩ hl rfl rfl (Nat.le_of_ble_eq_true rfl) dX0_cheapest_40 ⟨Nat.le_of_ble_eq_true rfl, Nat.le_of_ble_eq_true rfl⟩ (fun z12617 F9 H locs hT hz12617 => ?_)
    obtain ⟨fz12617, hz12617⟩ := hz12617
    rw [fz12617] at hT
    refine lv_istore (lv' := [(7, .int z12617), (6, .int z12613), (0, .ref p0), (1, .ref p1), (2, .ref p2), (3, .int p3), (4, .int p4), (5, .int z12612)]) hx hb dX0_cheapest_43 hl (by decide) rfl (fun ls hl => ?_)
    refine lv_iload hx hb dX0_cheapest_45 (lv_at hl 0 rfl) ?_
    refine lv_if_lt (tgt := 85) hx hb dX0_cheapest_47 (by decide) (fun c12618 => ?_) (fun c12618 => ?_)
    · have w12619 := cv_lt (rfl : z12617.toInt = z12617.toInt) (by decide : (0 : Int32).toInt = 0) c12618
      exact K85 z12612 z12613 z12617 _ _ _ _ (by omega) (by omega) hT hfr  (lv_sub hl [2, 3, 4, 5, 6, 7, 1, 0] rfl)
    · have w12620 := cv_nlt (rfl : z12617.toInt = z12617.toInt) (by decide : (0 : Int32).toInt = 0) c12618
      refine lv_iload hx hb dX0_cheapest_50 (lv_at hl 0 rfl) ?_
      refine lv_aload_n hx hb dX0_cheapest_52 rfl (lv_at hl 2 rfl) ?_
      refine t_get (C := RX0) (T := TX0) (N := 2) X hT m0 g0 rfl rfl 0 (by decide) qw_88 inlX0 rfl dX0_cheapest_53 (fun v12621 hv12621 ov12621 => ?_)
      obtain rfl : v12621 = .ref b12615 := hv12621.symm.trans hv12614
      refine t_alen X hT mb12615 gb12615 rfl (by decide) dX0_cheapest_56 ?_
      refine lv_topi (fun z12622 ez12622 => ?_)
      obtain rfl : z12622 = 48 := ez12622.trans (by rfl)
      refine lv_icmp_ge (tgt := 85) hx hb dX0_cheapest_57 (by decide) (fun c12623 => ?_) (fun c12623 => ?_)
      · have w12624 := cv_le (by decide : (48 : Int32).toInt = 48) (rfl : z12617.toInt = z12617.toInt) c12623
        exact K85 z12612 z12613 z12617 _ _ _ _ (by omega) (by omega) hT hfr  (lv_sub hl [2, 3, 4, 5, 6, 7, 1, 0] rfl)
      · have w12625 := cv_nle (by decide : (48 : Int32).toInt = 48) (rfl : z12617.toInt = z12617.toInt) c12623
        refine lv_aload_n hx hb dX0_cheapest_60 rfl (lv_at hl 2 rfl) ?_
        refine t_get (C := RX0) (T := TX0) (N := 2) X hT m0 g0 rfl rfl 0 (by decide) qw_88 inlX0 rfl dX0_cheapest_61 (fun v12626 hv12626 ov12626 => ?_)
        obtain rfl : v12626 = .ref b12615 := hv12626.symm.trans hv12614
        refine lv_iload hx hb dX0_cheapest_64 (lv_at hl 0 rfl) ?_
        refine lv_aload_n hx hb dX0_cheapest_66 rfl (lv_at hl 4 rfl) ?_
        refine lv_iload_n hx hb dX0_cheapest_67 rfl (lv_at hl 5 rfl) ?_
        refine lv_iload hx hb dX0_cheapest_68 (lv_at hl 7 rfl) ?_
        refine t_cSi (n := 3) (As := [.ref p2, .int p3, .int z12612]) (rest := [.int z12617, .ref b12615]) X hT (kt34_X0_byDoor l G tag L F hT.2.2.2 p2 p3 z12612 m2 g2) qw_1025 qw_1026 qw_36 qw_1027 ⟨by decide +kernel, by decide +kernel, by decide +kernel⟩ ⟨Nat.le_of_ble_eq_true rfl, Nat.le_of_ble_eq_true rfl⟩ hl rfl rfl (Nat.le_of_ble_eq_true rfl) dX0_cheapest_70 ⟨Nat.le_of_ble_eq_true rfl, Nat.le_of_ble_eq_true rfl⟩ (fun z12627 F9 H locs hT hz12627 => ?_)
        obtain ⟨fz12627, hz12627⟩ := hz12627
        rw [fz12627] at hT
        refine lv_aload_n hx hb dX0_cheapest_73 rfl (lv_at hl 3 rfl) ?_
        refine lv_aload_n hx hb dX0_cheapest_74 rfl (lv_at hl 4 rfl) ?_
        refine lv_iload_n hx hb dX0_cheapest_75 rfl (lv_at hl 5 rfl) ?_
        refine lv_iload hx hb dX0_cheapest_76 (lv_at hl 7 rfl) ?_
        refine t_cSi (n := 4) (As := [.ref p1, .ref p2, .int p3, .int z12612]) (rest := [.int z12627, .int z12617, .ref b12615]) X hT (kt35_X0_byWall l G tag L F hT.2.2.2 p1 p2 p3 z12612 m1 g1 m2 g2) qw_1031 qw_1032 qw_36 qw_1033 ⟨by decide +kernel, by decide +kernel, by decide +kernel⟩ ⟨Nat.le_of_ble_eq_true rfl, Nat.le_of_ble_eq_true rfl⟩ hl rfl rfl (Nat.le_of_ble_eq_true rfl) dX0_cheapest_78 ⟨Nat.le_of_ble_eq_true rfl, Nat.le_of_ble_eq_true rfl⟩ (fun z12628 F9 H locs hT hz12628 => ?_)
        obtain ⟨fz12628, hz12628⟩ := hz12628
        rw [fz12628] at hT
        refine t_mmin X hl qw_1017 qw_1018 qw_850 qw_1019 (Nat.le_of_ble_eq_true rfl) (Nat.le_of_ble_eq_true rfl) (Nat.le_of_ble_eq_true rfl) (Nat.le_of_ble_eq_true rfl) dX0_cheapest_81 (fun z12629 ez12629 => ?_)
        have hz12629 := mmin_e ez12629 (rfl : z12627.toInt = z12627.toInt) (rfl : z12628.toInt = z12628.toInt)
        refine t_ist X hT mb12615 gb12615 rfl (by omega) (show (-2147483648) ≤ (z12629 : Int32).toInt ∧ (z12629 : Int32).toInt ≤ 2147483647 from (by omega)) dX0_cheapest_84 (fun F H locs hT v12630 h1v12630 h2v12630 => ?_)
        have hv12614 := (h2v12630 _ _).trans hv12614
        have hfr : (∀ b j : Nat, (tag b ≠ 21 ∨ j ≠ 0) → (tag b ≠ 21 ∨ j ≠ 1) → fld F b j = fld Fo b j) ∧ EF tag F Fo := ⟨fun b j n21_0 n21_1 => (h2v12630 b j).trans (hfr.1 b j n21_0 n21_1), fun b j hb => (h1v12630 b j (Or.inl (ns_ne hb gb12615 (by decide)))).trans (hfr.2 b j hb)⟩
        exact K85 z12612 z12613 z12617 _ _ _ _ (by omega) (by omega) hT hfr  (lv_sub hl [2, 3, 4, 5, 6, 7, 1, 0] rfl)
  refine lv_aload_n hx hb dX0_cheapest_0 rfl (lv_at hl 2 rfl) ?_
  refine t_get (C := RX7) (T := TX7) (N := 7) X hT m2 g2 rfl rfl 2 (by decide) qw_1016 inlX7 rfl dX0_cheapest_1 (fun v12631 hv12631 ov12631 => ?_)
  obtain ⟨b12632, rfl, mb12632, gb12632⟩ := okV_r ov12631
  have gb12632 : tag b12632 = 8 := tg_of gb12632
  refine lv_iload_n hx hb dX0_cheapest_4 rfl (lv_at hl 3 rfl) ?_
  refine t_ild X hT mb12632 gb12632 rfl (by omega) dX0_cheapest_5 (fun z12633 vz12633 rz12633 => ?_)
  have rz12633 : 0 ≤ z12633.toInt ∧ z12633.toInt ≤ 6 := rz12633
  refine lv_istore (lv' := [(5, .int z12633), (0, .ref p0), (1, .ref p1), (2, .ref p2), (3, .int p3), (4, .int p4)]) hx hb dX0_cheapest_6 hl (by decide) rfl (fun ls hl => ?_)
  refine lv_iload hx hb dX0_cheapest_8 (lv_at hl 0 rfl) ?_
  refine lv_if_ne (tgt := 15) hx hb dX0_cheapest_10 (by decide) (fun c12634 => ?_) (fun c12634 => ?_)
  · have w12635 := cv_ne (rfl : z12633.toInt = z12633.toInt) (by decide : (0 : Int32).toInt = 0) c12634
    refine lv_iload hx hb dX0_cheapest_15 (lv_at hl 5 rfl) ?_
    refine lv_iconst (v := 1) hx hb dX0_cheapest_17 (by decide) ?_
    refine lv_icmp_ge (tgt := 25) hx hb dX0_cheapest_18 (by decide) (fun c12636 => ?_) (fun c12636 => ?_)
    · have w12637 := cv_le (by decide : (1 : Int32).toInt = 1) (rfl : p4.toInt = p4.toInt) c12636
      refine lv_iload hx hb dX0_cheapest_25 (lv_at hl 5 rfl) ?_
      exact K27 z12633 p4 _ _ _ _ (by omega) (by omega) hT hfr  (lv_sub hl [1, 2, 3, 4, 5, 0] rfl)
    · have w12638 := cv_nle (by decide : (1 : Int32).toInt = 1) (rfl : p4.toInt = p4.toInt) c12636
      refine lv_iconst (v := 1) hx hb dX0_cheapest_21 (by decide) ?_
      refine lv_goto (tgt := 27) hx hb dX0_cheapest_22 (by decide) ?_
      exact K27 z12633 1 _ _ _ _ (by omega) (by decide) hT hfr  (lv_sub hl [1, 2, 3, 4, 5, 0] rfl)
  · have w12639 := cv_eq (rfl : z12633.toInt = z12633.toInt) (by decide : (0 : Int32).toInt = 0) c12634
    refine lv_iconst (v := 0) hx hb dX0_cheapest_13 (by decide) ?_
    exact t_iret hQ X hT (⟨(by decide), hfr⟩) (Nat.le_of_ble_eq_true rfl) (Nat.le_of_ble_eq_true rfl) dX0_cheapest_14
set_option maxHeartbeats 4000000 in
set_option maxRecDepth 100000 in
theorem kt42_X10_burn (l : Launch) (G : KG) (tag : Nat → Nat) (L : List Nat) (Fo : Nat → va_E) (ho : okT G ttC tag L Fo) (p0 : Nat) (p1 : Nat) (p2 : Int32) (m0 : p0 ∈ L) (g0 : tag p0 = 18) (m1 : p1 ∈ L) (g1 : tag p1 = 19) (h2 : 0 ≤ p2.toInt ∧ p2.toInt ≤ 3) : TMv l yX10_burn cX10_burn 5 { frames := 1, cells := 0, slots := 0, locals := 25 } G ttC tag L Fo [.ref p0, .ref p1, .int p2] (fun F1 => ((∀ b j : Nat, fld F1 b j = fld Fo b j) ∧ EF tag F1 Fo)) := by
  refine t_bodyv (y := yX10_burn) (cd := cX10_burn) (mL := 5) (rm := { frames := 1, cells := 0, slots := 0, locals := 25 }) (av := [.ref p0, .ref p1, .int p2]) (by decide) (Nat.le_of_ble_eq_true rfl) ho ?_
  intro p e s m args below meth c ls A Q hQ X hT hl
  have hx := X.1.1
  have hb := X.1.2.1
  have hl : lv_has ls 5 [(0, .ref p0), (1, .ref p1), (2, .int p2)] := hl
  obtain ⟨F, hFo⟩ : ∃ F : Nat → va_E, F = Fo := ⟨_, rfl⟩
  rw [← hFo] at hT
  have hfr : (∀ b j : Nat, fld F b j = fld Fo b j) ∧ EF tag F Fo := by
    rw [hFo]
    exact ⟨by intros; rfl, fun _ _ _ => rfl⟩
  have K2 : ∀ (n : Nat) (z13118 : Int32) (F : Nat → va_E) (H : Heap) (locs : List Loc) (ls : Array Slot), (7 - z13118.toInt < (n : Int)) → (1 ≤ z13118.toInt ∧ z13118.toInt ≤ 7) → TH G ttC A s tag L F H locs → ((∀ b j : Nat, fld F b j = fld Fo b j) ∧ EF tag F Fo) → lv_has ls 5 [(0, .ref p0), (1, .ref p1), (2, .int p2), (3, .int z13118)] → W p l e { frames := 1, cells := 0, slots := 0, locals := 25 } s m args below meth c H locs 0 0 Q (F0 m 2 ls []) := by
    intro n
    induction n with
    | zero =>
      intro z13118 F H locs ls hn rz13118 hT hfr hl
      exfalso
      omega
    | succ n ih2 =>
      intro z13118 F H locs ls hn rz13118 hT hfr hl
      have K59 : ∀ (z13120 : Int32) (F : Nat → va_E) (H : Heap) (locs : List Loc) (ls : Array Slot), (0 ≤ z13120.toInt ∧ z13120.toInt ≤ 1) → (1 ≤ z13118.toInt ∧ z13118.toInt ≤ 6) → TH G ttC A s tag L F H locs → ((∀ b j : Nat, fld F b j = fld Fo b j) ∧ EF tag F Fo) → lv_has ls 5 [(0, .ref p0), (1, .ref p1), (2, .int p2), (3, .int z13118), (4, .int z13120)] → W p l e { frames := 1, cells := 0, slots := 0, locals := 25 } s m args below meth c H locs 0 0 Q (F0 m 59 ls []) := by
        intro z13120 F H locs ls rz13120 r9s13119 hT hfr hl
        obtain ⟨z13121, ez13121⟩ : ∃ y : Int32, y = z13118 + 1 := ⟨_, rfl⟩
        have hz13121 : z13121.toInt = z13118.toInt + 1 := ar_add ez13121 rfl (by decide : (1 : Int32).toInt = 1) (by omega) (by omega)
        refine lv_iinc (v := z13121) (lv' := [(3, .int z13121), (0, .ref p0), (1, .ref p1), (2, .int p2), (4, .int z13120)]) hx hb dX10_burn_59 hl (k := 3) rfl (by rw [ez13121]; rfl) (by decide) rfl (fun ls hl => ?_)
        refine lv_goto (tgt := 2) hx hb dX10_burn_62 (by decide) ?_
        exact ih2 z13121 _ _ _ _ (by omega) (by omega) hT hfr  (lv_sub hl [1, 2, 3, 0] rfl)
      have K33 : ∀ (z13123 : Int32) (F : Nat → va_E) (H : Heap) (locs : List Loc) (ls : Array Slot), (0 ≤ z13123.toInt ∧ z13123.toInt ≤ 1) → (1 ≤ z13118.toInt ∧ z13118.toInt ≤ 6) → TH G ttC A s tag L F H locs → ((∀ b j : Nat, fld F b j = fld Fo b j) ∧ EF tag F Fo) → lv_has ls 5 [(0, .ref p0), (1, .ref p1), (2, .int p2), (3, .int z13118)] → W p l e { frames := 1, cells := 0, slots := 0, locals := 25 } s m args below meth c H locs 0 0 Q (F0 m 33 ls [.int z13123]) := by
        intro z13123 F H locs ls rz13123 r9s13122 hT hfr hl
        refine lv_istore (lv' := [(4, .int z13123), (0, .ref p0), (1, .ref p1), (2, .int p2), (3, .int z13118)]) hx hb dX10_burn_33 hl (by decide) rfl (fun ls hl => ?_)
        refine lv_iload hx hb dX10_burn_35 (lv_at hl 0 rfl) ?_
        refine lv_if_eq (tgt := 59) hx hb dX10_burn_37 (by decide) (fun c13124 => ?_) (fun c13124 => ?_)
        · have w13125 := cv_eq (rfl : z13123.toInt = z13123.toInt) (by decide : (0 : Int32).toInt = 0) c13124
          exact K59 z13123 _ _ _ _ (by omega) (by omega) hT hfr  (lv_sub hl [1, 2, 3, 4, 0] rfl)
        · have w13126 := cv_ne (rfl : z13123.toInt = z13123.toInt) (by decide : (0 : Int32).toInt = 0) c13124
          refine lv_aload_n hx hb dX10_burn_40 rfl (lv_at hl 2 rfl) ?_
          refine lv_iload_n hx hb dX10_burn_41 rfl (lv_at hl 3 rfl) ?_
          refine lv_iload_n hx hb dX10_burn_42 rfl (lv_at hl 4 rfl) ?_
          refine lv_bipush (v := 6) hx hb dX10_burn_43 (by decide) ?_
          refine t_cVi (n := 3) (C := RX7) (T := TX7) (N := 7) (As := [.int p2, .int z13118, .int 6]) (rest := []) X hT (kt15_X7_partOf l G tag L F hT.2.2.2 p1 p2 z13118 6 m1 g1) m1 g1 rfl rfl qw_1121 qw_778 qw_779 qw_22 qw_780 ⟨rfl, by decide +kernel, by decide +kernel, by decide +kernel⟩ ⟨Nat.le_of_ble_eq_true rfl, Nat.le_of_ble_eq_true rfl⟩ hl rfl rfl (Nat.le_of_ble_eq_true rfl) dX10_burn_45 ⟨Nat.le_of_ble_eq_true rfl, Nat.le_of_ble_eq_true rfl⟩ (fun z13127 F9 H locs hT hz13127 => ?_)
          obtain ⟨fz13127, hz13127⟩ := hz13127
          rw [fz13127] at hT
          refine lv_if_ne (tgt := 59) hx hb dX10_burn_48 (by decide) (fun c13128 => ?_) (fun c13128 => ?_)
          · have w13129 := cv_ne (rfl : z13127.toInt = z13127.toInt) (by decide : (0 : Int32).toInt = 0) c13128
            exact K59 z13123 _ _ _ _ (by omega) (by omega) hT hfr  (lv_sub hl [1, 2, 3, 4, 0] rfl)
          · have w13130 := cv_eq (rfl : z13127.toInt = z13127.toInt) (by decide : (0 : Int32).toInt = 0) c13128
            refine lv_aload_n hx hb dX10_burn_51 rfl (lv_at hl 2 rfl) ?_
            refine lv_iload_n hx hb dX10_burn_52 rfl (lv_at hl 3 rfl) ?_
            refine lv_iload_n hx hb dX10_burn_53 rfl (lv_at hl 4 rfl) ?_
            refine lv_iconst (v := 5) hx hb dX10_burn_54 (by decide) ?_
            refine lv_iconst (v := 1) hx hb dX10_burn_55 (by decide) ?_
            refine t_cVv (n := 4) (C := RX7) (T := TX7) (N := 7) (As := [.int p2, .int z13118, .int 5, .int 1]) (rest := []) X hT (kt16_X7_setPart l G tag L F hT.2.2.2 p1 p2 z13118 5 1 m1 g1) m1 g1 rfl rfl qw_1124 qw_423 qw_424 qw_22 qw_425 ⟨rfl, by decide +kernel, by decide +kernel, by decide +kernel⟩ ⟨Nat.le_of_ble_eq_true rfl, Nat.le_of_ble_eq_true rfl⟩ hl rfl rfl (Nat.le_of_ble_eq_true rfl) dX10_burn_56 ⟨Nat.le_of_ble_eq_true rfl, Nat.le_of_ble_eq_true rfl⟩ (fun F H locs hT hz13131 => ?_)
            have yz13131 := hz13131
            have hfr : (∀ b j : Nat, fld F b j = fld Fo b j) ∧ EF tag F Fo := ⟨fun b j  => (yz13131.1 b j ).trans (hfr.1 b j ), fun b j hb => (yz13131.2 b j hb).trans (hfr.2 b j hb)⟩
            exact K59 z13123 _ _ _ _ (by omega) (by omega) hT hfr  (lv_sub hl [1, 2, 3, 4, 0] rfl)
      refine lv_iload_n hx hb dX10_burn_2 rfl (lv_at hl 3 rfl) ?_
      refine lv_aload_n hx hb dX10_burn_3 rfl (lv_at hl 1 rfl) ?_
      refine t_get (C := RX7) (T := TX7) (N := 7) X hT m1 g1 rfl rfl 2 (by decide) qw_1119 inlX7 rfl dX10_burn_4 (fun v13132 hv13132 ov13132 => ?_)
      obtain ⟨b13133, rfl, mb13133, gb13133⟩ := okV_r ov13132
      have gb13133 : tag b13133 = 8 := tg_of gb13133
      refine lv_iload_n hx hb dX10_burn_7 rfl (lv_at hl 2 rfl) ?_
      refine t_ild X hT mb13133 gb13133 rfl (by omega) dX10_burn_8 (fun z13134 vz13134 rz13134 => ?_)
      have rz13134 : 0 ≤ z13134.toInt ∧ z13134.toInt ≤ 6 := rz13134
      refine lv_icmp_gt (tgt := 65) hx hb dX10_burn_9 (by decide) (fun c13135 => ?_) (fun c13135 => ?_)
      · have w13136 := cv_lt (rfl : z13134.toInt = z13134.toInt) (rfl : z13118.toInt = z13118.toInt) c13135
        exact t_vret hQ X hT hfr (Nat.le_of_ble_eq_true rfl) (Nat.le_of_ble_eq_true rfl) dX10_burn_65
      · have w13137 := cv_nlt (rfl : z13134.toInt = z13134.toInt) (rfl : z13118.toInt = z13118.toInt) c13135
        refine lv_aload_n hx hb dX10_burn_12 rfl (lv_at hl 0 rfl) ?_
        refine lv_aload_n hx hb dX10_burn_13 rfl (lv_at hl 1 rfl) ?_
        refine lv_iload_n hx hb dX10_burn_14 rfl (lv_at hl 2 rfl) ?_
        refine lv_iload_n hx hb dX10_burn_15 rfl (lv_at hl 3 rfl) ?_
        refine lv_iconst (v := 0) hx hb dX10_burn_16 (by decide) ?_
        refine t_cVi (n := 3) (C := RX7) (T := TX7) (N := 7) (As := [.int p2, .int z13118, .int 0]) (rest := [.ref p0]) X hT (kt15_X7_partOf l G tag L F hT.2.2.2 p1 p2 z13118 0 m1 g1) m1 g1 rfl rfl qw_1121 qw_778 qw_779 qw_22 qw_780 ⟨rfl, by decide +kernel, by decide +kernel, by decide +kernel⟩ ⟨Nat.le_of_ble_eq_true rfl, Nat.le_of_ble_eq_true rfl⟩ hl rfl rfl (Nat.le_of_ble_eq_true rfl) dX10_burn_17 ⟨Nat.le_of_ble_eq_true rfl, Nat.le_of_ble_eq_true rfl⟩ (fun z13138 F9 H locs hT hz13138 => ?_)
        obtain ⟨fz13138, hz13138⟩ := hz13138
        rw [fz13138] at hT
        refine lv_iconst (v := 0) hx hb dX10_burn_20 (by decide) ?_
        refine t_cVi (n := 2) (C := RX1) (T := TX1) (N := 20) (As := [.int z13138, .int 0]) (rest := []) X hT (kt9_X1_stonePart l G tag L F hT.2.2.2 p0 z13138 0 m0 g0) m0 g0 rfl rfl qw_1122 qw_858 qw_859 qw_17 qw_860 ⟨rfl, by decide +kernel, by decide +kernel, by decide +kernel⟩ ⟨Nat.le_of_ble_eq_true rfl, Nat.le_of_ble_eq_true rfl⟩ hl rfl rfl (Nat.le_of_ble_eq_true rfl) dX10_burn_21 ⟨Nat.le_of_ble_eq_true rfl, Nat.le_of_ble_eq_true rfl⟩ (fun z13139 F9 H locs hT hz13139 => ?_)
        obtain ⟨fz13139, hz13139⟩ := hz13139
        rw [fz13139] at hT
        refine lv_iconst (v := 2) hx hb dX10_burn_24 (by decide) ?_
        refine lv_icmp_ne (tgt := 32) hx hb dX10_burn_25 (by decide) (fun c13140 => ?_) (fun c13140 => ?_)
        · have w13141 := cv_ne (rfl : z13139.toInt = z13139.toInt) (by decide : (2 : Int32).toInt = 2) c13140
          refine lv_iconst (v := 0) hx hb dX10_burn_32 (by decide) ?_
          exact K33 0 _ _ _ _ (by decide) (by omega) hT hfr  (lv_sub hl [0, 1, 2, 3] rfl)
        · have w13142 := cv_eq (rfl : z13139.toInt = z13139.toInt) (by decide : (2 : Int32).toInt = 2) c13140
          refine lv_iconst (v := 1) hx hb dX10_burn_28 (by decide) ?_
          refine lv_goto (tgt := 33) hx hb dX10_burn_29 (by decide) ?_
          exact K33 1 _ _ _ _ (by decide) (by omega) hT hfr  (lv_sub hl [0, 1, 2, 3] rfl)
  refine lv_iconst (v := 1) hx hb dX10_burn_0 (by decide) ?_
  refine lv_istore_n (lv' := [(3, .int 1), (0, .ref p0), (1, .ref p1), (2, .int p2)]) hx hb dX10_burn_1 rfl hl (by decide) rfl (fun ls hl => ?_)
  have kk13143 : (1 : Int32).toInt = 1 := by decide
  exact K2 7 1 _ _ _ _ (by omega) (by decide) hT hfr  (lv_sub hl [1, 2, 3, 0] rfl)
set_option maxHeartbeats 4000000 in
set_option maxRecDepth 100000 in
theorem kt43_X6_isFrontFree (l : Launch) (G : KG) (tag : Nat → Nat) (L : List Nat) (F : Nat → va_E) (ho : okT G ttC tag L F) (p0 : Nat) (p1 : Nat) (p2 : Int32) (p3 : Int32) (p4 : Int32) (p5 : Int32) (m0 : p0 ∈ L) (g0 : tag p0 = 18) (m1 : p1 ∈ L) (g1 : tag p1 = 19) (h2 : 0 ≤ p2.toInt ∧ p2.toInt ≤ 3) (h4 : 0 ≤ p4.toInt ∧ p4.toInt ≤ 3) : TMi l yX6_isFrontFree cX6_isFrontFree 9 (some .boolean) { frames := 2, cells := 0, slots := 0, locals := 49 } G ttC tag L F [.ref p0, .ref p1, .int p2, .int p3, .int p4, .int p5] (fun r F1 => F1 = F ∧ (0 ≤ r.toInt ∧ r.toInt ≤ 1)) := by
  refine t_bodyi (y := yX6_isFrontFree) (cd := cX6_isFrontFree) (mL := 9) (rt := (some .boolean)) (rm := { frames := 2, cells := 0, slots := 0, locals := 49 }) (av := [.ref p0, .ref p1, .int p2, .int p3, .int p4, .int p5]) (by decide) (Nat.le_of_ble_eq_true rfl) ho ?_
  intro p e s m args below meth c ls A Q hQ X hT hl
  have hx := X.1.1
  have hb := X.1.2.1
  have hl : lv_has ls 9 [(0, .ref p0), (1, .ref p1), (2, .int p2), (3, .int p3), (4, .int p4), (5, .int p5)] := hl
  have rp3 := rg_all p3
  have rp5 := rg_all p5
  refine lv_iload_n hx hb dX6_isFrontFree_0 rfl (lv_at hl 3 rfl) ?_
  refine lv_iload hx hb dX6_isFrontFree_1 (lv_at hl 4 rfl) ?_
  refine lv_iload hx hb dX6_isFrontFree_3 (lv_at hl 5 rfl) ?_
  refine t_cSi (n := 3) (As := [.int p3, .int p4, .int p5]) (rest := []) X hT (kt2_X4_doorPlace l G tag L F hT.2.2.2 p3 p4 p5 ) qw_784 qw_785 qw_409 qw_786 ⟨by decide +kernel, by decide +kernel, by decide +kernel⟩ ⟨Nat.le_of_ble_eq_true rfl, Nat.le_of_ble_eq_true rfl⟩ hl rfl rfl (Nat.le_of_ble_eq_true rfl) dX6_isFrontFree_5 ⟨Nat.le_of_ble_eq_true rfl, Nat.le_of_ble_eq_true rfl⟩ (fun z13451 F9 H locs hT hz13451 => ?_)
  obtain ⟨fz13451, hz13451⟩ := hz13451
  rw [fz13451] at hT
  refine lv_istore (lv' := [(6, .int z13451), (0, .ref p0), (1, .ref p1), (2, .int p2), (3, .int p3), (4, .int p4), (5, .int p5)]) hx hb dX6_isFrontFree_8 hl (by decide) rfl (fun ls hl => ?_)
  refine lv_aload_n hx hb dX6_isFrontFree_10 rfl (lv_at hl 1 rfl) ?_
  refine t_get (C := RX1) (T := TX1) (N := 20) X hT m0 g0 rfl rfl 11 (by decide) qw_405 inlX1 rfl dX6_isFrontFree_11 (fun v13452 hv13452 ov13452 => ?_)
  obtain ⟨b13453, rfl, mb13453, gb13453⟩ := okV_r ov13452
  have gb13453 : tag b13453 = 4 := tg_of gb13453
  refine lv_iload_n hx hb dX6_isFrontFree_14 rfl (lv_at hl 3 rfl) ?_
  refine t_ild X hT mb13453 gb13453 rfl (by omega) dX6_isFrontFree_15 (fun z13454 vz13454 rz13454 => ?_)
  have rz13454 : 0 ≤ z13454.toInt ∧ z13454.toInt ≤ 11 := rz13454
  refine lv_iload_n hx hb dX6_isFrontFree_16 rfl (lv_at hl 4 rfl) ?_
  refine lv_iload hx hb dX6_isFrontFree_17 (lv_at hl 0 rfl) ?_
  refine t_cSi (n := 2) (As := [.int p3, .int z13451]) (rest := [.int z13454]) X hT (kt0_X4_eastOf l G tag L F hT.2.2.2 p3 z13451 ) qw_407 qw_408 qw_409 qw_410 ⟨by decide +kernel, by decide +kernel, by decide +kernel⟩ ⟨Nat.le_of_ble_eq_true rfl, Nat.le_of_ble_eq_true rfl⟩ hl rfl rfl (Nat.le_of_ble_eq_true rfl) dX6_isFrontFree_19 ⟨Nat.le_of_ble_eq_true rfl, Nat.le_of_ble_eq_true rfl⟩ (fun z13455 F9 H locs hT hz13455 => ?_)
  obtain ⟨fz13455, hz13455⟩ := hz13455
  rw [fz13455] at hT
  refine lv_iadd hx hb dX6_isFrontFree_22 ?_
  refine lv_topi (fun z13456 ez13456 => ?_)
  have rz13456 := rg_all z13456
  refine t_getsN X hT X.2.2.2.1.2.1.1 (List.mem_of_getElem? (i := 0) rfl) dX6_isFrontFree_23 ?_
  refine lv_iload hx hb dX6_isFrontFree_26 (lv_at hl 5 rfl) ?_
  refine t_tild X hT X.2.2.2.1.2.1.1 (by omega) dX6_isFrontFree_28 (fun z13457 ez13457 => ?_)
  have rz13457 : (-1) ≤ z13457.toInt ∧ z13457.toInt ≤ 1 := by rw [ez13457]; exact gEast_r _
  refine lv_iadd hx hb dX6_isFrontFree_29 ?_
  refine lv_topi (fun z13458 ez13458 => ?_)
  have rz13458 := rg_all z13458
  refine lv_istore (lv' := [(7, .int z13458), (6, .int z13451), (0, .ref p0), (1, .ref p1), (2, .int p2), (3, .int p3), (4, .int p4), (5, .int p5)]) hx hb dX6_isFrontFree_30 hl (by decide) rfl (fun ls hl => ?_)
  refine lv_aload_n hx hb dX6_isFrontFree_32 rfl (lv_at hl 2 rfl) ?_
  refine t_get (C := RX1) (T := TX1) (N := 20) X hT m0 g0 rfl rfl 12 (by decide) qw_406 inlX1 rfl dX6_isFrontFree_33 (fun v13459 hv13459 ov13459 => ?_)
  obtain ⟨b13460, rfl, mb13460, gb13460⟩ := okV_r ov13459
  have gb13460 : tag b13460 = 4 := tg_of gb13460
  refine lv_iload_n hx hb dX6_isFrontFree_36 rfl (lv_at hl 4 rfl) ?_
  refine t_ild X hT mb13460 gb13460 rfl (by omega) dX6_isFrontFree_37 (fun z13461 vz13461 rz13461 => ?_)
  have rz13461 : 0 ≤ z13461.toInt ∧ z13461.toInt ≤ 11 := rz13461
  refine lv_iload_n hx hb dX6_isFrontFree_38 rfl (lv_at hl 5 rfl) ?_
  refine lv_iload hx hb dX6_isFrontFree_39 (lv_at hl 1 rfl) ?_
  refine t_cSi (n := 2) (As := [.int p3, .int z13451]) (rest := [.int z13461]) X hT (kt1_X4_southOf l G tag L F hT.2.2.2 p3 z13451 ) qw_411 qw_412 qw_409 qw_413 ⟨by decide +kernel, by decide +kernel, by decide +kernel⟩ ⟨Nat.le_of_ble_eq_true rfl, Nat.le_of_ble_eq_true rfl⟩ hl rfl rfl (Nat.le_of_ble_eq_true rfl) dX6_isFrontFree_41 ⟨Nat.le_of_ble_eq_true rfl, Nat.le_of_ble_eq_true rfl⟩ (fun z13462 F9 H locs hT hz13462 => ?_)
  obtain ⟨fz13462, hz13462⟩ := hz13462
  rw [fz13462] at hT
  refine lv_iadd hx hb dX6_isFrontFree_44 ?_
  refine lv_topi (fun z13463 ez13463 => ?_)
  have rz13463 := rg_all z13463
  refine t_getsN X hT X.2.2.2.1.2.1.2.1 (List.mem_of_getElem? (i := 1) rfl) dX6_isFrontFree_45 ?_
  refine lv_iload hx hb dX6_isFrontFree_48 (lv_at hl 6 rfl) ?_
  refine t_tild X hT X.2.2.2.1.2.1.2.1 (by omega) dX6_isFrontFree_50 (fun z13464 ez13464 => ?_)
  have rz13464 : (-1) ≤ z13464.toInt ∧ z13464.toInt ≤ 1 := by rw [ez13464]; exact gSouth_r _
  refine lv_iadd hx hb dX6_isFrontFree_51 ?_
  refine lv_topi (fun z13465 ez13465 => ?_)
  have rz13465 := rg_all z13465
  refine lv_istore (lv' := [(8, .int z13465), (7, .int z13458), (6, .int z13451), (0, .ref p0), (1, .ref p1), (2, .int p2), (3, .int p3), (4, .int p4), (5, .int p5)]) hx hb dX6_isFrontFree_52 hl (by decide) rfl (fun ls hl => ?_)
  refine lv_aload_n hx hb dX6_isFrontFree_54 rfl (lv_at hl 3 rfl) ?_
  refine lv_aload_n hx hb dX6_isFrontFree_55 rfl (lv_at hl 4 rfl) ?_
  refine lv_iload hx hb dX6_isFrontFree_56 (lv_at hl 1 rfl) ?_
  refine lv_iload hx hb dX6_isFrontFree_58 (lv_at hl 0 rfl) ?_
  refine t_cSi (n := 4) (As := [.ref p0, .ref p1, .int z13458, .int z13465]) (rest := []) X hT (kt29_X6_isFree l G tag L F hT.2.2.2 p0 p1 z13458 z13465 m0 g0 m1 g1) qw_787 qw_379 qw_380 qw_381 ⟨by decide +kernel, by decide +kernel, by decide +kernel⟩ ⟨Nat.le_of_ble_eq_true rfl, Nat.le_of_ble_eq_true rfl⟩ hl rfl rfl (Nat.le_of_ble_eq_true rfl) dX6_isFrontFree_60 ⟨Nat.le_of_ble_eq_true rfl, Nat.le_of_ble_eq_true rfl⟩ (fun z13466 F9 H locs hT hz13466 => ?_)
  obtain ⟨fz13466, hz13466⟩ := hz13466
  rw [fz13466] at hT
  exact t_zret hQ X hT (nar_z (by omega)) (⟨rfl, (by omega)⟩) (Nat.le_of_ble_eq_true rfl) (Nat.le_of_ble_eq_true rfl) dX6_isFrontFree_63
set_option maxHeartbeats 4000000 in
set_option maxRecDepth 100000 in
theorem kt44_X6_lawDoor (l : Launch) (G : KG) (tag : Nat → Nat) (L : List Nat) (F : Nat → va_E) (ho : okT G ttC tag L F) (p0 : Nat) (p1 : Nat) (p2 : Int32) (m0 : p0 ∈ L) (g0 : tag p0 = 18) (m1 : p1 ∈ L) (g1 : tag p1 = 19) (h2 : 0 ≤ p2.toInt ∧ p2.toInt ≤ 3) : TMi l yX6_lawDoor cX6_lawDoor 12 (some .int) { frames := 3, cells := 0, slots := 0, locals := 77 } G ttC tag L F [.ref p0, .ref p1, .int p2] (fun r F1 => F1 = F ∧ ((-2) ≤ r.toInt ∧ r.toInt ≤ 900)) := by
  refine t_bodyi (y := yX6_lawDoor) (cd := cX6_lawDoor) (mL := 12) (rt := (some .int)) (rm := { frames := 3, cells := 0, slots := 0, locals := 77 }) (av := [.ref p0, .ref p1, .int p2]) (by decide) (Nat.le_of_ble_eq_true rfl) ho ?_
  intro p e s m args below meth c ls A Q hQ X hT hl
  have hx := X.1.1
  have hb := X.1.2.1
  have hl : lv_has ls 12 [(0, .ref p0), (1, .ref p1), (2, .int p2)] := hl
  have K42 : ∀ (n : Nat) (z14789 : Int32) (z14790 : Int32) (z14791 : Int32) (z14792 : Int32) (z14793 : Int32) (z14794 : Int32) (H : Heap) (locs : List Loc) (ls : Array Slot), (4 - z14794.toInt < (n : Int)) → (0 ≤ z14789.toInt ∧ z14789.toInt ≤ 6) → (1 ≤ z14790.toInt ∧ z14790.toInt ≤ 7) → ((-2) ≤ z14792.toInt ∧ z14792.toInt ≤ 900) → (0 ≤ z14794.toInt ∧ z14794.toInt ≤ 4) → TH G ttC A s tag L F H locs → lv_has ls 12 [(0, .ref p0), (1, .ref p1), (2, .int p2), (3, .int z14789), (4, .int z14790), (5, .int z14791), (6, .int z14792), (7, .int z14793), (8, .int z14794)] → W p l e { frames := 3, cells := 0, slots := 0, locals := 77 } s m args below meth c H locs 0 0 Q (F0 m 42 ls []) := by
    intro n
    induction n with
    | zero =>
      intro z14789 z14790 z14791 z14792 z14793 z14794 H locs ls hn rz14789 rz14790 rz14792 rz14794 hT hl
      have rz14791 := rg_all z14791
      have rz14793 := rg_all z14793
      exfalso
      omega
    | succ n ih42 =>
      intro z14789 z14790 z14791 z14792 z14793 z14794 H locs ls hn rz14789 rz14790 rz14792 rz14794 hT hl
      have rz14791 := rg_all z14791
      have rz14793 := rg_all z14793
      have K51 : ∀ (n : Nat) (z14795 : Int32) (z14796 : Int32) (z14798 : Int32) (H : Heap) (locs : List Loc) (ls : Array Slot), (13 - z14798.toInt < (n : Int)) → ((-2) ≤ z14795.toInt ∧ z14795.toInt ≤ 900) → (0 ≤ z14798.toInt ∧ z14798.toInt ≤ 13) → (0 ≤ z14794.toInt ∧ z14794.toInt ≤ 3) → TH G ttC A s tag L F H locs → lv_has ls 12 [(0, .ref p0), (1, .ref p1), (2, .int p2), (3, .int z14789), (4, .int z14790), (5, .int z14791), (6, .int z14795), (7, .int z14796), (8, .int z14794), (9, .int z14798)] → W p l e { frames := 3, cells := 0, slots := 0, locals := 77 } s m args below meth c H locs 0 0 Q (F0 m 51 ls []) := by
        intro n
        induction n with
        | zero =>
          intro z14795 z14796 z14798 H locs ls hn rz14795 rz14798 r9s14797 hT hl
          have rz14796 := rg_all z14796
          exfalso
          omega
        | succ n ih51 =>
          intro z14795 z14796 z14798 H locs ls hn rz14795 rz14798 r9s14797 hT hl
          have rz14796 := rg_all z14796
          have K160 : ∀ (z14799 : Int32) (z14800 : Int32) (z14802 : Int32) (z14803 : Int32) (H : Heap) (locs : List Loc) (ls : Array Slot), ((-2) ≤ z14799.toInt ∧ z14799.toInt ≤ 900) → (0 ≤ z14803.toInt ∧ z14803.toInt ≤ 1) → (0 ≤ z14798.toInt ∧ z14798.toInt ≤ 12) → TH G ttC A s tag L F H locs → lv_has ls 12 [(0, .ref p0), (1, .ref p1), (2, .int p2), (3, .int z14789), (4, .int z14790), (5, .int z14791), (6, .int z14799), (7, .int z14800), (8, .int z14794), (9, .int z14798), (10, .int z14802), (11, .int z14803)] → W p l e { frames := 3, cells := 0, slots := 0, locals := 77 } s m args below meth c H locs 0 0 Q (F0 m 160 ls []) := by
            intro z14799 z14800 z14802 z14803 H locs ls rz14799 rz14803 r9s14801 hT hl
            have rz14800 := rg_all z14800
            have rz14802 := rg_all z14802
            obtain ⟨z14804, ez14804⟩ : ∃ y : Int32, y = z14798 + 1 := ⟨_, rfl⟩
            have hz14804 : z14804.toInt = z14798.toInt + 1 := ar_add ez14804 rfl (by decide : (1 : Int32).toInt = 1) (by omega) (by omega)
            refine lv_iinc (v := z14804) (lv' := [(9, .int z14804), (0, .ref p0), (1, .ref p1), (2, .int p2), (3, .int z14789), (4, .int z14790), (5, .int z14791), (6, .int z14799), (7, .int z14800), (8, .int z14794), (10, .int z14802), (11, .int z14803)]) hx hb dX6_lawDoor_160 hl (k := 9) rfl (by rw [ez14804]; rfl) (by decide) rfl (fun ls hl => ?_)
            refine lv_goto (tgt := 51) hx hb dX6_lawDoor_163 (by decide) ?_
            exact ih51 z14799 z14800 z14804 _ _ _ (by omega) (by omega) (by omega) (by omega) hT  (lv_sub hl [1, 2, 3, 4, 5, 6, 7, 8, 9, 0] rfl)
          have K124 : ∀ (z14806 : Int32) (z14807 : Int32) (H : Heap) (locs : List Loc) (ls : Array Slot), (0 ≤ z14807.toInt ∧ z14807.toInt ≤ 1) → (0 ≤ z14798.toInt ∧ z14798.toInt ≤ 12) → TH G ttC A s tag L F H locs → lv_has ls 12 [(0, .ref p0), (1, .ref p1), (2, .int p2), (3, .int z14789), (4, .int z14790), (5, .int z14791), (6, .int z14795), (7, .int z14796), (8, .int z14794), (9, .int z14798), (10, .int z14806)] → W p l e { frames := 3, cells := 0, slots := 0, locals := 77 } s m args below meth c H locs 0 0 Q (F0 m 124 ls [.int z14807]) := by
            intro z14806 z14807 H locs ls rz14807 r9s14805 hT hl
            have rz14806 := rg_all z14806
            refine lv_istore (lv' := [(11, .int z14807), (0, .ref p0), (1, .ref p1), (2, .int p2), (3, .int z14789), (4, .int z14790), (5, .int z14791), (6, .int z14795), (7, .int z14796), (8, .int z14794), (9, .int z14798), (10, .int z14806)]) hx hb dX6_lawDoor_124 hl (by decide) rfl (fun ls hl => ?_)
            refine lv_iload hx hb dX6_lawDoor_126 (lv_at hl 0 rfl) ?_
            refine lv_if_eq (tgt := 160) hx hb dX6_lawDoor_128 (by decide) (fun c14808 => ?_) (fun c14808 => ?_)
            · have w14809 := cv_eq (rfl : z14807.toInt = z14807.toInt) (by decide : (0 : Int32).toInt = 0) c14808
              exact K160 z14795 z14796 z14806 z14807 _ _ _ (by omega) (by omega) (by omega) hT  (lv_sub hl [1, 2, 3, 4, 5, 6, 7, 8, 9, 10, 11, 0] rfl)
            · have w14810 := cv_ne (rfl : z14807.toInt = z14807.toInt) (by decide : (0 : Int32).toInt = 0) c14808
              refine lv_aload_n hx hb dX6_lawDoor_131 rfl (lv_at hl 1 rfl) ?_
              refine lv_aload_n hx hb dX6_lawDoor_132 rfl (lv_at hl 2 rfl) ?_
              refine lv_iload_n hx hb dX6_lawDoor_133 rfl (lv_at hl 3 rfl) ?_
              refine lv_iload hx hb dX6_lawDoor_134 (lv_at hl 5 rfl) ?_
              refine lv_iload hx hb dX6_lawDoor_136 (lv_at hl 9 rfl) ?_
              refine lv_iload hx hb dX6_lawDoor_138 (lv_at hl 10 rfl) ?_
              refine t_cSi (n := 6) (As := [.ref p0, .ref p1, .int p2, .int z14790, .int z14794, .int z14798]) (rest := []) X hT (kt43_X6_isFrontFree l G tag L F hT.2.2.2 p0 p1 p2 z14790 z14794 z14798 m0 g0 m1 g1 (by omega) (by omega)) qw_781 qw_782 qw_380 qw_783 ⟨by decide +kernel, by decide +kernel, by decide +kernel⟩ ⟨Nat.le_of_ble_eq_true rfl, Nat.le_of_ble_eq_true rfl⟩ hl rfl rfl (Nat.le_of_ble_eq_true rfl) dX6_lawDoor_140 ⟨Nat.le_of_ble_eq_true rfl, Nat.le_of_ble_eq_true rfl⟩ (fun z14811 F9 H locs hT hz14811 => ?_)
              obtain ⟨fz14811, hz14811⟩ := hz14811
              rw [fz14811] at hT
              refine lv_if_eq (tgt := 160) hx hb dX6_lawDoor_143 (by decide) (fun c14812 => ?_) (fun c14812 => ?_)
              · have w14813 := cv_eq (rfl : z14811.toInt = z14811.toInt) (by decide : (0 : Int32).toInt = 0) c14812
                exact K160 z14795 z14796 z14806 z14807 _ _ _ (by omega) (by omega) (by omega) hT  (lv_sub hl [1, 2, 3, 4, 5, 6, 7, 8, 9, 10, 11, 0] rfl)
              · have w14814 := cv_ne (rfl : z14811.toInt = z14811.toInt) (by decide : (0 : Int32).toInt = 0) c14812
                refine lv_bipush (v := 100) hx hb dX6_lawDoor_146 (by decide) ?_
                refine lv_iload hx hb dX6_lawDoor_148 (lv_at hl 9 rfl) ?_
                refine lv_imul hx hb dX6_lawDoor_150 ?_
                refine lv_topi (fun z14815 ez14815 => ?_)
                have hz14815 : z14815.toInt = 100 * z14794.toInt := ar_mul ez14815 (by decide : (100 : Int32).toInt = 100) (rfl : z14794.toInt = z14794.toInt) (by omega) (by omega)
                have rz14815 : 0 ≤ z14815.toInt ∧ z14815.toInt ≤ 300 := by omega
                refine lv_iload hx hb dX6_lawDoor_151 (lv_at hl 10 rfl) ?_
                refine lv_iadd hx hb dX6_lawDoor_153 ?_
                refine lv_topi (fun z14816 ez14816 => ?_)
                have hz14816 : z14816.toInt = z14815.toInt + z14798.toInt := ar_add ez14816 (rfl : z14815.toInt = z14815.toInt) (rfl : z14798.toInt = z14798.toInt) (by omega) (by omega)
                have rz14816 : 0 ≤ z14816.toInt ∧ z14816.toInt ≤ 312 := by omega
                refine lv_istore (lv' := [(6, .int z14816), (11, .int z14807), (0, .ref p0), (1, .ref p1), (2, .int p2), (3, .int z14789), (4, .int z14790), (5, .int z14791), (7, .int z14796), (8, .int z14794), (9, .int z14798), (10, .int z14806)]) hx hb dX6_lawDoor_154 hl (by decide) rfl (fun ls hl => ?_)
                refine lv_iload hx hb dX6_lawDoor_156 (lv_at hl 11 rfl) ?_
                refine lv_istore (lv' := [(7, .int z14806), (6, .int z14816), (11, .int z14807), (0, .ref p0), (1, .ref p1), (2, .int p2), (3, .int z14789), (4, .int z14790), (5, .int z14791), (8, .int z14794), (9, .int z14798), (10, .int z14806)]) hx hb dX6_lawDoor_158 hl (by decide) rfl (fun ls hl => ?_)
                exact K160 z14816 z14806 z14806 z14807 _ _ _ (by omega) (by omega) (by omega) hT  (lv_sub hl [3, 4, 5, 6, 7, 8, 1, 0, 9, 10, 11, 2] rfl)
          have K119 : ∀ (z14818 : Int32) (H : Heap) (locs : List Loc) (ls : Array Slot), (0 ≤ z14798.toInt ∧ z14798.toInt ≤ 12) → TH G ttC A s tag L F H locs → lv_has ls 12 [(0, .ref p0), (1, .ref p1), (2, .int p2), (3, .int z14789), (4, .int z14790), (5, .int z14791), (6, .int z14795), (7, .int z14796), (8, .int z14794), (9, .int z14798), (10, .int z14818)] → W p l e { frames := 3, cells := 0, slots := 0, locals := 77 } s m args below meth c H locs 0 0 Q (F0 m 119 ls []) := by
            intro z14818 H locs ls r9s14817 hT hl
            have rz14818 := rg_all z14818
            refine lv_iconst (v := 1) hx hb dX6_lawDoor_119 (by decide) ?_
            refine lv_goto (tgt := 124) hx hb dX6_lawDoor_120 (by decide) ?_
            exact K124 z14818 1 _ _ _ (by decide) (by omega) hT  (lv_sub hl [0, 1, 2, 3, 4, 5, 6, 7, 8, 9, 10] rfl)
          have K123 : ∀ (z14821 : Int32) (z14822 : Int32) (H : Heap) (locs : List Loc) (ls : Array Slot), (0 ≤ z14822.toInt ∧ z14822.toInt ≤ 1) → ((-1) ≤ z14795.toInt ∧ z14795.toInt ≤ 900) → (0 ≤ z14798.toInt ∧ z14798.toInt ≤ 12) → TH G ttC A s tag L F H locs → fld F p0 2 = .int z14822 → lv_has ls 12 [(0, .ref p0), (1, .ref p1), (2, .int p2), (3, .int z14789), (4, .int z14790), (5, .int z14791), (6, .int z14795), (7, .int z14796), (8, .int z14794), (9, .int z14798), (10, .int z14821)] → W p l e { frames := 3, cells := 0, slots := 0, locals := 77 } s m args below meth c H locs 0 0 Q (F0 m 123 ls []) := by
            intro z14821 z14822 H locs ls rz14822 r9s14819 r9s14820 hT qz14822 hl
            have rz14821 := rg_all z14821
            refine lv_iconst (v := 0) hx hb dX6_lawDoor_123 (by decide) ?_
            exact K124 z14821 0 _ _ _ (by decide) (by omega) hT  (lv_sub hl [0, 1, 2, 3, 4, 5, 6, 7, 8, 9, 10] rfl)
          have K86 : ∀ (z14824 : Int32) (H : Heap) (locs : List Loc) (ls : Array Slot), (0 ≤ z14798.toInt ∧ z14798.toInt ≤ 12) → TH G ttC A s tag L F H locs → lv_has ls 12 [(0, .ref p0), (1, .ref p1), (2, .int p2), (3, .int z14789), (4, .int z14790), (5, .int z14791), (6, .int z14795), (7, .int z14796), (8, .int z14794), (9, .int z14798)] → W p l e { frames := 3, cells := 0, slots := 0, locals := 77 } s m args below meth c H locs 0 0 Q (F0 m 86 ls [.int z14824]) := by
            intro z14824 H locs ls r9s14823 hT hl
            have rz14824 := rg_all z14824
            refine lv_istore (lv' := [(10, .int z14824), (0, .ref p0), (1, .ref p1), (2, .int p2), (3, .int z14789), (4, .int z14790), (5, .int z14791), (6, .int z14795), (7, .int z14796), (8, .int z14794), (9, .int z14798)]) hx hb dX6_lawDoor_86 hl (by decide) rfl (fun ls hl => ?_)
            refine lv_iload hx hb dX6_lawDoor_88 (lv_at hl 7 rfl) ?_
            refine lv_bipush (v := (-2)) hx hb dX6_lawDoor_90 (by decide) ?_
            refine lv_icmp_eq (tgt := 119) hx hb dX6_lawDoor_92 (by decide) (fun c14825 => ?_) (fun c14825 => ?_)
            · have w14826 := cv_eq (rfl : z14795.toInt = z14795.toInt) (by decide : ((-2) : Int32).toInt = (-2)) c14825
              exact K119 z14824 _ _ _ (by omega) hT  (lv_sub hl [1, 2, 3, 4, 5, 6, 7, 8, 9, 10, 0] rfl)
            · have w14827 := cv_ne (rfl : z14795.toInt = z14795.toInt) (by decide : ((-2) : Int32).toInt = (-2)) c14825
              refine lv_aload_n hx hb dX6_lawDoor_95 rfl (lv_at hl 1 rfl) ?_
              refine t_get (C := RX1) (T := TX1) (N := 20) X hT m0 g0 rfl rfl 2 (by decide) qw_916 inlX1 rfl dX6_lawDoor_96 (fun v14828 hv14828 ov14828 => ?_)
              obtain ⟨z14829, rfl, rz14829⟩ := okV_i ov14828
              refine lv_if_eq (tgt := 112) hx hb dX6_lawDoor_99 (by decide) (fun c14830 => ?_) (fun c14830 => ?_)
              · have w14831 := cv_eq (rfl : z14829.toInt = z14829.toInt) (by decide : (0 : Int32).toInt = 0) c14830
                refine lv_iload hx hb dX6_lawDoor_112 (lv_at hl 0 rfl) ?_
                refine lv_iload hx hb dX6_lawDoor_114 (lv_at hl 8 rfl) ?_
                refine lv_icmp_ge (tgt := 123) hx hb dX6_lawDoor_116 (by decide) (fun c14832 => ?_) (fun c14832 => ?_)
                · have w14833 := cv_le (rfl : z14796.toInt = z14796.toInt) (rfl : z14824.toInt = z14824.toInt) c14832
                  exact K123 z14824 z14829 _ _ _ (by omega) (by omega) (by omega) hT hv14828 (lv_sub hl [1, 2, 3, 4, 5, 6, 7, 8, 9, 10, 0] rfl)
                · have w14834 := cv_nle (rfl : z14796.toInt = z14796.toInt) (rfl : z14824.toInt = z14824.toInt) c14832
                  exact K119 z14824 _ _ _ (by omega) hT  (lv_sub hl [1, 2, 3, 4, 5, 6, 7, 8, 9, 10, 0] rfl)
              · have w14835 := cv_ne (rfl : z14829.toInt = z14829.toInt) (by decide : (0 : Int32).toInt = 0) c14830
                refine lv_iload hx hb dX6_lawDoor_102 (lv_at hl 0 rfl) ?_
                refine lv_iload hx hb dX6_lawDoor_104 (lv_at hl 8 rfl) ?_
                refine lv_icmp_le (tgt := 123) hx hb dX6_lawDoor_106 (by decide) (fun c14836 => ?_) (fun c14836 => ?_)
                · have w14837 := cv_le (rfl : z14824.toInt = z14824.toInt) (rfl : z14796.toInt = z14796.toInt) c14836
                  exact K123 z14824 z14829 _ _ _ (by omega) (by omega) (by omega) hT hv14828 (lv_sub hl [1, 2, 3, 4, 5, 6, 7, 8, 9, 10, 0] rfl)
                · have w14838 := cv_nle (rfl : z14824.toInt = z14824.toInt) (rfl : z14796.toInt = z14796.toInt) c14836
                  refine lv_goto (tgt := 119) hx hb dX6_lawDoor_109 (by decide) ?_
                  exact K119 z14824 _ _ _ (by omega) hT  (lv_sub hl [1, 2, 3, 4, 5, 6, 7, 8, 9, 10, 0] rfl)
          refine lv_iload hx hb dX6_lawDoor_51 (lv_at hl 9 rfl) ?_
          refine lv_iconst (v := 2) hx hb dX6_lawDoor_53 (by decide) ?_
          refine lv_iload hx hb dX6_lawDoor_54 (lv_at hl 4 rfl) ?_
          refine lv_imul hx hb dX6_lawDoor_56 ?_
          refine lv_topi (fun z14839 ez14839 => ?_)
          have hz14839 : z14839.toInt = 2 * z14790.toInt := ar_mul ez14839 (by decide : (2 : Int32).toInt = 2) (rfl : z14790.toInt = z14790.toInt) (by omega) (by omega)
          have rz14839 : 2 ≤ z14839.toInt ∧ z14839.toInt ≤ 14 := by omega
          refine lv_iconst (v := 2) hx hb dX6_lawDoor_57 (by decide) ?_
          refine lv_isub hx hb dX6_lawDoor_58 ?_
          refine lv_topi (fun z14840 ez14840 => ?_)
          have hz14840 : z14840.toInt = z14839.toInt - 2 := ar_sub ez14840 (rfl : z14839.toInt = z14839.toInt) (by decide : (2 : Int32).toInt = 2) (by omega) (by omega)
          have rz14840 : 0 ≤ z14840.toInt ∧ z14840.toInt ≤ 12 := by omega
          refine lv_icmp_gt (tgt := 166) hx hb dX6_lawDoor_59 (by decide) (fun c14841 => ?_) (fun c14841 => ?_)
          · have w14842 := cv_lt (rfl : z14840.toInt = z14840.toInt) (rfl : z14798.toInt = z14798.toInt) c14841
            obtain ⟨z14843, ez14843⟩ : ∃ y : Int32, y = z14794 + 1 := ⟨_, rfl⟩
            have hz14843 : z14843.toInt = z14794.toInt + 1 := ar_add ez14843 rfl (by decide : (1 : Int32).toInt = 1) (by omega) (by omega)
            refine lv_iinc (v := z14843) (lv' := [(8, .int z14843), (0, .ref p0), (1, .ref p1), (2, .int p2), (3, .int z14789), (4, .int z14790), (5, .int z14791), (6, .int z14795), (7, .int z14796), (9, .int z14798)]) hx hb dX6_lawDoor_166 hl (k := 8) rfl (by rw [ez14843]; rfl) (by decide) rfl (fun ls hl => ?_)
            refine lv_goto (tgt := 42) hx hb dX6_lawDoor_169 (by decide) ?_
            exact ih42 z14789 z14790 z14791 z14795 z14796 z14843 _ _ _ (by omega) (by omega) (by omega) (by omega) (by omega) hT  (lv_sub hl [1, 2, 3, 4, 5, 6, 7, 8, 0] rfl)
          · have w14844 := cv_nlt (rfl : z14840.toInt = z14840.toInt) (rfl : z14798.toInt = z14798.toInt) c14841
            refine lv_iload_n hx hb dX6_lawDoor_62 rfl (lv_at hl 3 rfl) ?_
            refine lv_if_ne (tgt := 70) hx hb dX6_lawDoor_63 (by decide) (fun c14845 => ?_) (fun c14845 => ?_)
            · have w14846 := cv_ne (rfl : z14789.toInt = z14789.toInt) (by decide : (0 : Int32).toInt = 0) c14845
              refine lv_iload hx hb dX6_lawDoor_70 (lv_at hl 4 rfl) ?_
              refine lv_iload hx hb dX6_lawDoor_72 (lv_at hl 4 rfl) ?_
              refine lv_iload hx hb dX6_lawDoor_74 (lv_at hl 8 rfl) ?_
              refine lv_iload hx hb dX6_lawDoor_76 (lv_at hl 9 rfl) ?_
              refine t_cSi (n := 3) (As := [.int z14790, .int z14794, .int z14798]) (rest := [.int z14790]) X hT (kt2_X4_doorPlace l G tag L F hT.2.2.2 z14790 z14794 z14798 ) qw_784 qw_785 qw_409 qw_786 ⟨by decide +kernel, by decide +kernel, by decide +kernel⟩ ⟨Nat.le_of_ble_eq_true rfl, Nat.le_of_ble_eq_true rfl⟩ hl rfl rfl (Nat.le_of_ble_eq_true rfl) dX6_lawDoor_78 ⟨Nat.le_of_ble_eq_true rfl, Nat.le_of_ble_eq_true rfl⟩ (fun z14847 F9 H locs hT hz14847 => ?_)
              obtain ⟨fz14847, hz14847⟩ := hz14847
              rw [fz14847] at hT
              refine lv_iload hx hb dX6_lawDoor_81 (lv_at hl 5 rfl) ?_
              refine t_cSi (n := 3) (As := [.int z14790, .int z14847, .int z14791]) (rest := []) X hT (kt5_X4_between l G tag L F hT.2.2.2 z14790 z14847 z14791 ) qw_925 qw_926 qw_409 qw_927 ⟨by decide +kernel, by decide +kernel, by decide +kernel⟩ ⟨Nat.le_of_ble_eq_true rfl, Nat.le_of_ble_eq_true rfl⟩ hl rfl rfl (Nat.le_of_ble_eq_true rfl) dX6_lawDoor_83 ⟨Nat.le_of_ble_eq_true rfl, Nat.le_of_ble_eq_true rfl⟩ (fun z14848 F9 H locs hT hz14848 => ?_)
              obtain ⟨fz14848, hz14848⟩ := hz14848
              rw [fz14848] at hT
              exact K86 z14848 _ _ _ (by omega) hT  (lv_sub hl [0, 1, 2, 3, 4, 5, 6, 7, 8, 9] rfl)
            · have w14849 := cv_eq (rfl : z14789.toInt = z14789.toInt) (by decide : (0 : Int32).toInt = 0) c14845
              refine lv_iconst (v := 0) hx hb dX6_lawDoor_66 (by decide) ?_
              refine lv_goto (tgt := 86) hx hb dX6_lawDoor_67 (by decide) ?_
              exact K86 0 _ _ _ (by omega) hT  (lv_sub hl [0, 1, 2, 3, 4, 5, 6, 7, 8, 9] rfl)
      refine lv_iload hx hb dX6_lawDoor_42 (lv_at hl 8 rfl) ?_
      refine lv_iconst (v := 4) hx hb dX6_lawDoor_44 (by decide) ?_
      refine lv_icmp_ge (tgt := 172) hx hb dX6_lawDoor_45 (by decide) (fun c14850 => ?_) (fun c14850 => ?_)
      · have w14851 := cv_le (by decide : (4 : Int32).toInt = 4) (rfl : z14794.toInt = z14794.toInt) c14850
        refine lv_iload hx hb dX6_lawDoor_172 (lv_at hl 6 rfl) ?_
        exact t_iret hQ X hT (⟨rfl, (by omega)⟩) (Nat.le_of_ble_eq_true rfl) (Nat.le_of_ble_eq_true rfl) dX6_lawDoor_174
      · have w14852 := cv_nle (by decide : (4 : Int32).toInt = 4) (rfl : z14794.toInt = z14794.toInt) c14850
        refine lv_iconst (v := 0) hx hb dX6_lawDoor_48 (by decide) ?_
        refine lv_istore (lv' := [(9, .int 0), (0, .ref p0), (1, .ref p1), (2, .int p2), (3, .int z14789), (4, .int z14790), (5, .int z14791), (6, .int z14792), (7, .int z14793), (8, .int z14794)]) hx hb dX6_lawDoor_49 hl (by decide) rfl (fun ls hl => ?_)
        have kk14853 : (0 : Int32).toInt = 0 := by decide
        exact K51 14 z14792 z14793 0 _ _ _ (by omega) (by omega) (by decide) (by omega) hT  (lv_sub hl [1, 2, 3, 4, 5, 6, 7, 8, 9, 0] rfl)
  have K30 : ∀ (z14854 : Int32) (z14855 : Int32) (z14856 : Int32) (H : Heap) (locs : List Loc) (ls : Array Slot), (0 ≤ z14854.toInt ∧ z14854.toInt ≤ 6) → (1 ≤ z14855.toInt ∧ z14855.toInt ≤ 7) → TH G ttC A s tag L F H locs → lv_has ls 12 [(0, .ref p0), (1, .ref p1), (2, .int p2), (3, .int z14854), (4, .int z14855)] → W p l e { frames := 3, cells := 0, slots := 0, locals := 77 } s m args below meth c H locs 0 0 Q (F0 m 30 ls [.int z14856]) := by
    intro z14854 z14855 z14856 H locs ls rz14854 rz14855 hT hl
    have rz14856 := rg_all z14856
    refine lv_istore (lv' := [(5, .int z14856), (0, .ref p0), (1, .ref p1), (2, .int p2), (3, .int z14854), (4, .int z14855)]) hx hb dX6_lawDoor_30 hl (by decide) rfl (fun ls hl => ?_)
    refine lv_bipush (v := (-2)) hx hb dX6_lawDoor_32 (by decide) ?_
    refine lv_istore (lv' := [(6, .int (-2)), (5, .int z14856), (0, .ref p0), (1, .ref p1), (2, .int p2), (3, .int z14854), (4, .int z14855)]) hx hb dX6_lawDoor_34 hl (by decide) rfl (fun ls hl => ?_)
    refine lv_iconst (v := 0) hx hb dX6_lawDoor_36 (by decide) ?_
    refine lv_istore (lv' := [(7, .int 0), (6, .int (-2)), (5, .int z14856), (0, .ref p0), (1, .ref p1), (2, .int p2), (3, .int z14854), (4, .int z14855)]) hx hb dX6_lawDoor_37 hl (by decide) rfl (fun ls hl => ?_)
    refine lv_iconst (v := 0) hx hb dX6_lawDoor_39 (by decide) ?_
    refine lv_istore (lv' := [(8, .int 0), (7, .int 0), (6, .int (-2)), (5, .int z14856), (0, .ref p0), (1, .ref p1), (2, .int p2), (3, .int z14854), (4, .int z14855)]) hx hb dX6_lawDoor_40 hl (by decide) rfl (fun ls hl => ?_)
    have kk14857 : ((-2) : Int32).toInt = (-2) := by decide
    have kk14858 : (0 : Int32).toInt = 0 := by decide
    have kk14859 : (0 : Int32).toInt = 0 := by decide
    exact K42 5 z14854 z14855 z14856 (-2) 0 0 _ _ _ (by omega) (by omega) (by omega) (by decide) (by decide) hT  (lv_sub hl [4, 5, 6, 7, 8, 3, 2, 1, 0] rfl)
  refine lv_aload_n hx hb dX6_lawDoor_0 rfl (lv_at hl 1 rfl) ?_
  refine t_get (C := RX7) (T := TX7) (N := 7) X hT m1 g1 rfl rfl 2 (by decide) qw_383 inlX7 rfl dX6_lawDoor_1 (fun v14860 hv14860 ov14860 => ?_)
  obtain ⟨b14861, rfl, mb14861, gb14861⟩ := okV_r ov14860
  have gb14861 : tag b14861 = 8 := tg_of gb14861
  refine lv_iload_n hx hb dX6_lawDoor_4 rfl (lv_at hl 2 rfl) ?_
  refine t_ild X hT mb14861 gb14861 rfl (by omega) dX6_lawDoor_5 (fun z14862 vz14862 rz14862 => ?_)
  have rz14862 : 0 ≤ z14862.toInt ∧ z14862.toInt ≤ 6 := rz14862
  refine lv_istore_n (lv' := [(3, .int z14862), (0, .ref p0), (1, .ref p1), (2, .int p2)]) hx hb dX6_lawDoor_6 rfl hl (by decide) rfl (fun ls hl => ?_)
  refine lv_iload_n hx hb dX6_lawDoor_7 rfl (lv_at hl 0 rfl) ?_
  refine lv_iconst (v := 1) hx hb dX6_lawDoor_8 (by decide) ?_
  refine lv_iadd hx hb dX6_lawDoor_9 ?_
  refine lv_topi (fun z14863 ez14863 => ?_)
  have hz14863 : z14863.toInt = z14862.toInt + 1 := ar_add ez14863 (rfl : z14862.toInt = z14862.toInt) (by decide : (1 : Int32).toInt = 1) (by omega) (by omega)
  have rz14863 : 1 ≤ z14863.toInt ∧ z14863.toInt ≤ 7 := by omega
  refine lv_istore (lv' := [(4, .int z14863), (3, .int z14862), (0, .ref p0), (1, .ref p1), (2, .int p2)]) hx hb dX6_lawDoor_10 hl (by decide) rfl (fun ls hl => ?_)
  refine lv_iload_n hx hb dX6_lawDoor_12 rfl (lv_at hl 1 rfl) ?_
  refine lv_if_ne (tgt := 20) hx hb dX6_lawDoor_13 (by decide) (fun c14864 => ?_) (fun c14864 => ?_)
  · have w14865 := cv_ne (rfl : z14862.toInt = z14862.toInt) (by decide : (0 : Int32).toInt = 0) c14864
    refine lv_iload_n hx hb dX6_lawDoor_20 rfl (lv_at hl 1 rfl) ?_
    refine lv_aload_n hx hb dX6_lawDoor_21 rfl (lv_at hl 3 rfl) ?_
    refine lv_iload_n hx hb dX6_lawDoor_22 rfl (lv_at hl 4 rfl) ?_
    refine lv_iload_n hx hb dX6_lawDoor_23 rfl (lv_at hl 1 rfl) ?_
    refine t_cVi (n := 2) (C := RX7) (T := TX7) (N := 7) (As := [.int p2, .int z14862]) (rest := [.int z14862]) X hT (kt24_X7_doorOf l G tag L F hT.2.2.2 p1 p2 z14862 m1 g1) m1 g1 rfl rfl qw_917 qw_918 qw_919 qw_22 qw_920 ⟨rfl, by decide +kernel, by decide +kernel, by decide +kernel⟩ ⟨Nat.le_of_ble_eq_true rfl, Nat.le_of_ble_eq_true rfl⟩ hl rfl rfl (Nat.le_of_ble_eq_true rfl) dX6_lawDoor_24 ⟨Nat.le_of_ble_eq_true rfl, Nat.le_of_ble_eq_true rfl⟩ (fun z14866 F9 H locs hT hz14866 => ?_)
    obtain ⟨fz14866, hz14866⟩ := hz14866
    rw [fz14866] at hT
    refine t_cSi (n := 2) (As := [.int z14862, .int z14866]) (rest := []) X hT (kt4_X4_inFront l G tag L F hT.2.2.2 z14862 z14866 ) qw_922 qw_923 qw_409 qw_924 ⟨by decide +kernel, by decide +kernel, by decide +kernel⟩ ⟨Nat.le_of_ble_eq_true rfl, Nat.le_of_ble_eq_true rfl⟩ hl rfl rfl (Nat.le_of_ble_eq_true rfl) dX6_lawDoor_27 ⟨Nat.le_of_ble_eq_true rfl, Nat.le_of_ble_eq_true rfl⟩ (fun z14867 F9 H locs hT hz14867 => ?_)
    obtain ⟨fz14867, hz14867⟩ := hz14867
    rw [fz14867] at hT
    exact K30 z14862 z14863 z14867 _ _ _ (by omega) (by omega) hT  (lv_sub hl [2, 3, 4, 1, 0] rfl)
  · have w14868 := cv_eq (rfl : z14862.toInt = z14862.toInt) (by decide : (0 : Int32).toInt = 0) c14864
    refine lv_iconst (v := 0) hx hb dX6_lawDoor_16 (by decide) ?_
    refine lv_goto (tgt := 30) hx hb dX6_lawDoor_17 (by decide) ?_
    exact K30 z14862 z14863 0 _ _ _ (by omega) (by omega) hT  (lv_sub hl [2, 3, 4, 1, 0] rfl)
