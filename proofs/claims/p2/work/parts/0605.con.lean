set_option maxHeartbeats 4000000 in
set_option maxRecDepth 100000 in
theorem kt335_X0_cheapest (l : Launch) (G : KG) (tag : Nat → Nat) (L : List Nat) (Fo : Nat → va_E) (ho : okT G ttC tag L Fo) (p0 : Nat) (p1 : Nat) (p2 : Nat) (p3 : Int32) (p4 : Int32) (m0 : p0 ∈ L) (g0 : tag p0 = 21) (m1 : p1 ∈ L) (g1 : tag p1 = 18) (m2 : p2 ∈ L) (g2 : tag p2 = 19) (h3 : 0 ≤ p3.toInt ∧ p3.toInt ≤ 3) : TMi l yX0_cheapest cX0_cheapest 9 (some .int) { frames := 5, cells := 0, slots := 0, locals := 121 } G ttC tag L Fo [.ref p0, .ref p1, .ref p2, .int p3, .int p4] (fun r F1 => ((-2147483648) ≤ r.toInt ∧ r.toInt ≤ 1000008) ∧ ((∀ b j : Nat, (tag b ≠ 21 ∨ j ≠ 0) → (tag b ≠ 21 ∨ j ≠ 1) → fld F1 b j = fld Fo b j) ∧ EF tag F1 Fo)) := by
  refine t_bodyi (y := yX0_cheapest) (cd := cX0_cheapest) (mL := 9) (rt := (some .int)) (rm := { frames := 5, cells := 0, slots := 0, locals := 121 }) (av := [.ref p0, .ref p1, .ref p2, .int p3, .int p4]) (by decide) (Nat.le_of_ble_eq_true rfl) ho ?_
  intro p e s m args below meth c ls A Q hQ X hT hl
  have hx := X.1.1
  have hb := X.1.2.1
  have hl : lv_has ls 9 [(0, .ref p0), (1, .ref p1), (2, .ref p2), (3, .int p3), (4, .int p4)] := hl
  have rp4 := rg_all p4
  obtain ⟨F, hFo⟩ : ∃ F : Nat → va_E, F = Fo := ⟨_, rfl⟩
  rw [← hFo] at hT
  have hfr : (∀ b j : Nat, (tag b ≠ 21 ∨ j ≠ 0) → (tag b ≠ 21 ∨ j ≠ 1) → fld F b j = fld Fo b j) ∧ EF tag F Fo := by
    rw [hFo]
    exact ⟨by intros; rfl, fun _ _ _ => rfl⟩
  have K91 : ∀ (n : Nat) (z98578 : Int32) (z98579 : Int32) (z98580 : Int32) (z98581 : Int32) (F : Nat → va_E) (H : Heap) (locs : List Loc) (ls : Array Slot), (z98581.toInt - 0 < (n : Int)) → (1 ≤ z98578.toInt ∧ z98578.toInt ≤ 6) → (1 ≤ z98579.toInt ∧ z98579.toInt ≤ 2147483647) → (0 ≤ z98581.toInt ∧ z98581.toInt ≤ 5) → TH G ttC A s tag L F H locs → ((∀ b j : Nat, (tag b ≠ 21 ∨ j ≠ 0) → (tag b ≠ 21 ∨ j ≠ 1) → fld F b j = fld Fo b j) ∧ EF tag F Fo) → lv_has ls 9 [(0, .ref p0), (1, .ref p1), (2, .ref p2), (3, .int p3), (4, .int p4), (5, .int z98578), (6, .int z98579), (7, .int z98580), (8, .int z98581)] → W p l e { frames := 5, cells := 0, slots := 0, locals := 121 } s m args below meth c H locs 0 0 Q (F0 m 91 ls []) := by
    intro n
    induction n with
    | zero =>
      intro z98578 z98579 z98580 z98581 F H locs ls hn rz98578 rz98579 rz98581 hT hfr hl
      have rz98580 := rg_all z98580
      exfalso
      omega
    | succ n ih91 =>
      intro z98578 z98579 z98580 z98581 F H locs ls hn rz98578 rz98579 rz98581 hT hfr hl
      have rz98580 := rg_all z98580
      refine lv_iload hx hb dX0_cheapest_91 (lv_at hl 8 rfl) ?_
      refine lv_iload hx hb dX0_cheapest_93 (lv_at hl 6 rfl) ?_
      refine lv_icmp_lt (tgt := 121) hx hb dX0_cheapest_95 (by decide) (fun c98582 => ?_) (fun c98582 => ?_)
      · have w98583 := cv_lt (rfl : z98581.toInt = z98581.toInt) (rfl : z98579.toInt = z98579.toInt) c98582
        refine lv_aload_n hx hb dX0_cheapest_121 rfl (lv_at hl 0 rfl) ?_
        refine lv_bipush (v := 8) hx hb dX0_cheapest_122 (by decide) ?_
        refine lv_iload hx hb dX0_cheapest_124 (lv_at hl 6 rfl) ?_
        refine lv_imul hx hb dX0_cheapest_126 ?_
        refine lv_topi (fun z98584 ez98584 => ?_)
        have rz98584 := rg_all z98584
        refine t_cVi (n := 1) (C := RX0) (T := TX0) (N := 2) (As := [.int z98584]) (rest := []) X hT (kt331_X0_least l G tag L F hT.2.2.2 p0 z98584 m0 g0) m0 g0 rfl rfl qw_1048 qw_1049 qw_1050 qw_36 qw_1051 ⟨rfl, by decide +kernel, by decide +kernel, by decide +kernel⟩ ⟨Nat.le_of_ble_eq_true rfl, Nat.le_of_ble_eq_true rfl⟩ hl rfl rfl (Nat.le_of_ble_eq_true rfl) dX0_cheapest_127 ⟨Nat.le_of_ble_eq_true rfl, Nat.le_of_ble_eq_true rfl⟩ (fun z98585 F9 H locs hT hz98585 => ?_)
        obtain ⟨fz98585, hz98585⟩ := hz98585
        rw [fz98585] at hT
        refine lv_iload hx hb dX0_cheapest_130 (lv_at hl 4 rfl) ?_
        refine lv_iconst (v := 1) hx hb dX0_cheapest_132 (by decide) ?_
        refine lv_icmp_ge (tgt := 141) hx hb dX0_cheapest_133 (by decide) (fun c98586 => ?_) (fun c98586 => ?_)
        · have w98587 := cv_le (by decide : (1 : Int32).toInt = 1) (rfl : p4.toInt = p4.toInt) c98586
          refine lv_iconst (v := 0) hx hb dX0_cheapest_141 (by decide) ?_
          refine lv_iadd hx hb dX0_cheapest_142 ?_
          refine lv_topi (fun z98588 ez98588 => ?_)
          have hz98588 : z98588.toInt = z98585.toInt + 0 := ar_add ez98588 (rfl : z98585.toInt = z98585.toInt) (by decide : (0 : Int32).toInt = 0) (by omega) (by omega)
          have rz98588 : (-2147483648) ≤ z98588.toInt ∧ z98588.toInt ≤ 1000000 := by omega
          exact t_iret hQ X hT (⟨(by omega), hfr⟩) (Nat.le_of_ble_eq_true rfl) (Nat.le_of_ble_eq_true rfl) dX0_cheapest_143
        · have w98589 := cv_nle (by decide : (1 : Int32).toInt = 1) (rfl : p4.toInt = p4.toInt) c98586
          refine lv_bipush (v := 8) hx hb dX0_cheapest_136 (by decide) ?_
          refine lv_goto (tgt := 142) hx hb dX0_cheapest_138 (by decide) ?_
          refine lv_iadd hx hb dX0_cheapest_142 ?_
          refine lv_topi (fun z98590 ez98590 => ?_)
          have hz98590 : z98590.toInt = z98585.toInt + 8 := ar_add ez98590 (rfl : z98585.toInt = z98585.toInt) (by decide : (8 : Int32).toInt = 8) (by omega) (by omega)
          have rz98590 : (-2147483640) ≤ z98590.toInt ∧ z98590.toInt ≤ 1000008 := by omega
          exact t_iret hQ X hT (⟨(by omega), hfr⟩) (Nat.le_of_ble_eq_true rfl) (Nat.le_of_ble_eq_true rfl) dX0_cheapest_143
      · have w98591 := cv_nlt (rfl : z98581.toInt = z98581.toInt) (rfl : z98579.toInt = z98579.toInt) c98582
        refine lv_aload_n hx hb dX0_cheapest_98 rfl (lv_at hl 0 rfl) ?_
        refine lv_iload hx hb dX0_cheapest_99 (lv_at hl 8 rfl) ?_
        refine lv_iconst (v := 1) hx hb dX0_cheapest_101 (by decide) ?_
        refine lv_iadd hx hb dX0_cheapest_102 ?_
        refine lv_topi (fun z98592 ez98592 => ?_)
        have hz98592 : z98592.toInt = z98581.toInt + 1 := ar_add ez98592 (rfl : z98581.toInt = z98581.toInt) (by decide : (1 : Int32).toInt = 1) (by omega) (by omega)
        have rz98592 : 2 ≤ z98592.toInt ∧ z98592.toInt ≤ 6 := by omega
        refine t_cVv (n := 1) (C := RX0) (T := TX0) (N := 2) (As := [.int z98592]) (rest := []) X hT (kt332_X0_goRound l G tag L F hT.2.2.2 p0 z98592 m0 g0) m0 g0 rfl rfl qw_1036 qw_1037 qw_1038 qw_36 qw_1039 ⟨rfl, by decide +kernel, by decide +kernel, by decide +kernel⟩ ⟨Nat.le_of_ble_eq_true rfl, Nat.le_of_ble_eq_true rfl⟩ hl rfl rfl (Nat.le_of_ble_eq_true rfl) dX0_cheapest_103 ⟨Nat.le_of_ble_eq_true rfl, Nat.le_of_ble_eq_true rfl⟩ (fun F H locs hT hz98593 => ?_)
        have yz98593 := hz98593
        have hfr : (∀ b j : Nat, (tag b ≠ 21 ∨ j ≠ 0) → (tag b ≠ 21 ∨ j ≠ 1) → fld F b j = fld Fo b j) ∧ EF tag F Fo := ⟨fun b j n21_0 n21_1 => (yz98593.1 b j ).trans (hfr.1 b j n21_0 n21_1), fun b j hb => (yz98593.2 b j hb).trans (hfr.2 b j hb)⟩
        refine lv_aload_n hx hb dX0_cheapest_106 rfl (lv_at hl 0 rfl) ?_
        refine lv_aload_n hx hb dX0_cheapest_107 rfl (lv_at hl 1 rfl) ?_
        refine lv_aload_n hx hb dX0_cheapest_108 rfl (lv_at hl 2 rfl) ?_
        refine lv_iload_n hx hb dX0_cheapest_109 rfl (lv_at hl 3 rfl) ?_
        refine lv_iload hx hb dX0_cheapest_110 (lv_at hl 8 rfl) ?_
        refine t_cVv (n := 4) (C := RX0) (T := TX0) (N := 2) (As := [.ref p1, .ref p2, .int p3, .int z98581]) (rest := []) X hT (kt334_X0_goIn l G tag L F hT.2.2.2 p0 p1 p2 p3 z98581 m0 g0 m1 g1 m2 g2 (by omega) (by omega)) m0 g0 rfl rfl qw_1040 qw_1041 qw_1042 qw_36 qw_1043 ⟨rfl, by decide +kernel, by decide +kernel, by decide +kernel⟩ ⟨Nat.le_of_ble_eq_true rfl, Nat.le_of_ble_eq_true rfl⟩ hl rfl rfl (Nat.le_of_ble_eq_true rfl) dX0_cheapest_112 ⟨Nat.le_of_ble_eq_true rfl, Nat.le_of_ble_eq_true rfl⟩ (fun F H locs hT hz98594 => ?_)
        have yz98594 := hz98594
        have hfr : (∀ b j : Nat, (tag b ≠ 21 ∨ j ≠ 0) → (tag b ≠ 21 ∨ j ≠ 1) → fld F b j = fld Fo b j) ∧ EF tag F Fo := ⟨fun b j n21_0 n21_1 => (yz98594.1 b j n21_0 n21_1).trans (hfr.1 b j n21_0 n21_1), fun b j hb => (yz98594.2 b j hb).trans (hfr.2 b j hb)⟩
        obtain ⟨z98595, ez98595⟩ : ∃ y : Int32, y = z98581 + (-1) := ⟨_, rfl⟩
        have hz98595 : z98595.toInt = z98581.toInt + (-1) := ar_add ez98595 rfl (by decide : ((-1) : Int32).toInt = (-1)) (by omega) (by omega)
        refine lv_iinc (v := z98595) (lv' := [(8, .int z98595), (0, .ref p0), (1, .ref p1), (2, .ref p2), (3, .int p3), (4, .int p4), (5, .int z98578), (6, .int z98579), (7, .int z98580)]) hx hb dX0_cheapest_115 hl (k := 8) rfl (by rw [ez98595]; rfl) (by decide) rfl (fun ls hl => ?_)
        refine lv_goto (tgt := 91) hx hb dX0_cheapest_118 (by decide) ?_
        exact ih91 z98578 z98579 z98580 z98595 _ _ _ _ (by omega) (by omega) (by omega) (by omega) hT hfr  (lv_sub hl [1, 2, 3, 4, 5, 6, 7, 8, 0] rfl)
  have K85 : ∀ (z98596 : Int32) (z98597 : Int32) (z98598 : Int32) (F : Nat → va_E) (H : Heap) (locs : List Loc) (ls : Array Slot), (1 ≤ z98596.toInt ∧ z98596.toInt ≤ 6) → (1 ≤ z98597.toInt ∧ z98597.toInt ≤ 2147483647) → TH G ttC A s tag L F H locs → ((∀ b j : Nat, (tag b ≠ 21 ∨ j ≠ 0) → (tag b ≠ 21 ∨ j ≠ 1) → fld F b j = fld Fo b j) ∧ EF tag F Fo) → lv_has ls 9 [(0, .ref p0), (1, .ref p1), (2, .ref p2), (3, .int p3), (4, .int p4), (5, .int z98596), (6, .int z98597), (7, .int z98598)] → W p l e { frames := 5, cells := 0, slots := 0, locals := 121 } s m args below meth c H locs 0 0 Q (F0 m 85 ls []) := by
    intro z98596 z98597 z98598 F H locs ls rz98596 rz98597 hT hfr hl
    have rz98598 := rg_all z98598
    refine lv_iload hx hb dX0_cheapest_85 (lv_at hl 5 rfl) ?_
    refine lv_iconst (v := 1) hx hb dX0_cheapest_87 (by decide) ?_
    refine lv_isub hx hb dX0_cheapest_88 ?_
    refine lv_topi (fun z98599 ez98599 => ?_)
    have hz98599 : z98599.toInt = z98596.toInt - 1 := ar_sub ez98599 (rfl : z98596.toInt = z98596.toInt) (by decide : (1 : Int32).toInt = 1) (by omega) (by omega)
    have rz98599 : 0 ≤ z98599.toInt ∧ z98599.toInt ≤ 5 := by omega
    refine lv_istore (lv' := [(8, .int z98599), (0, .ref p0), (1, .ref p1), (2, .ref p2), (3, .int p3), (4, .int p4), (5, .int z98596), (6, .int z98597), (7, .int z98598)]) hx hb dX0_cheapest_89 hl (by decide) rfl (fun ls hl => ?_)
    exact K91 6 z98596 z98597 z98598 z98599 _ _ _ _ (by omega) (by omega) (by omega) (by omega) hT hfr  (lv_sub hl [1, 2, 3, 4, 5, 6, 7, 8, 0] rfl)
  have K27 : ∀ (z98600 : Int32) (z98601 : Int32) (F : Nat → va_E) (H : Heap) (locs : List Loc) (ls : Array Slot), (1 ≤ z98600.toInt ∧ z98600.toInt ≤ 6) → (1 ≤ z98601.toInt ∧ z98601.toInt ≤ 2147483647) → TH G ttC A s tag L F H locs → ((∀ b j : Nat, (tag b ≠ 21 ∨ j ≠ 0) → (tag b ≠ 21 ∨ j ≠ 1) → fld F b j = fld Fo b j) ∧ EF tag F Fo) → lv_has ls 9 [(0, .ref p0), (1, .ref p1), (2, .ref p2), (3, .int p3), (4, .int p4), (5, .int z98600)] → W p l e { frames := 5, cells := 0, slots := 0, locals := 121 } s m args below meth c H locs 0 0 Q (F0 m 27 ls [.int z98601]) := by
    intro z98600 z98601 F H locs ls rz98600 rz98601 hT hfr hl
    refine lv_istore (lv' := [(6, .int z98601), (0, .ref p0), (1, .ref p1), (2, .ref p2), (3, .int p3), (4, .int p4), (5, .int z98600)]) hx hb dX0_cheapest_27 hl (by decide) rfl (fun ls hl => ?_)
    refine lv_aload_n hx hb dX0_cheapest_29 rfl (lv_at hl 1 rfl) ?_
    refine t_get (C := RX0) (T := TX0) (N := 2) X hT m0 g0 rfl rfl 0 (by decide) qw_88 inlX0 rfl dX0_cheapest_30 (fun v98602 hv98602 ov98602 => ?_)
    obtain ⟨b98603, rfl, mb98603, gb98603⟩ := okV_r ov98602
    have gb98603 : tag b98603 = 12 := tg_of gb98603
    refine t_cSv (n := 1) (As := [.ref b98603]) (rest := []) X hT (kt330_X0_empty l G tag L F hT.2.2.2 b98603 mb98603 gb98603) qw_1020 qw_1021 qw_36 qw_1022 ⟨by decide +kernel, by decide +kernel, by decide +kernel⟩ ⟨Nat.le_of_ble_eq_true rfl, Nat.le_of_ble_eq_true rfl⟩ hl rfl rfl (Nat.le_of_ble_eq_true rfl) dX0_cheapest_33 ⟨Nat.le_of_ble_eq_true rfl, Nat.le_of_ble_eq_true rfl⟩ (fun F H locs hT hz98604 => ?_)
    have yz98604 := hz98604
    have hv98602 := (yz98604.1 _ 0 ).trans hv98602
    have hfr : (∀ b j : Nat, (tag b ≠ 21 ∨ j ≠ 0) → (tag b ≠ 21 ∨ j ≠ 1) → fld F b j = fld Fo b j) ∧ EF tag F Fo := ⟨fun b j n21_0 n21_1 => (yz98604.1 b j ).trans (hfr.1 b j n21_0 n21_1), fun b j hb => (yz98604.2 b j hb).trans (hfr.2 b j hb)⟩
    refine lv_aload_n hx hb dX0_cheapest_36 rfl (lv_at hl 3 rfl) ?_
    refine lv_iload_n hx hb dX0_cheapest_37 rfl (lv_at hl 4 rfl) ?_
    refine lv_iload hx hb dX0_cheapest_38 (lv_at hl 6 rfl) ?_
    refine t_cVi (n := 2) (C := RX7) (T := TX7) (N := 7) (As := [.int p3, .int z98600]) (rest := []) X hT (kt318_X7_doorOf l G tag L F hT.2.2.2 p2 p3 z98600 m2 g2) m2 g2 rfl rfl qw_1024 qw_918 qw_919 qw_22 qw_920 ⟨rfl, by decide +kernel, by decide +kernel, by decide +kernel⟩ ⟨Nat.le_of_ble_eq_true rfl, Nat.le_of_ble_eq_true rfl⟩ hl rfl rfl (Nat.le_of_ble_eq_true rfl) dX0_cheapest_40 ⟨Nat.le_of_ble_eq_true rfl, Nat.le_of_ble_eq_true rfl⟩ (fun z98605 F9 H locs hT hz98605 => ?_)
    obtain ⟨fz98605, hz98605⟩ := hz98605
    rw [fz98605] at hT
    refine lv_istore (lv' := [(7, .int z98605), (6, .int z98601), (0, .ref p0), (1, .ref p1), (2, .ref p2), (3, .int p3), (4, .int p4), (5, .int z98600)]) hx hb dX0_cheapest_43 hl (by decide) rfl (fun ls hl => ?_)
    refine lv_iload hx hb dX0_cheapest_45 (lv_at hl 0 rfl) ?_
    refine lv_if_lt (tgt := 85) hx hb dX0_cheapest_47 (by decide) (fun c98606 => ?_) (fun c98606 => ?_)
    · have w98607 := cv_lt (rfl : z98605.toInt = z98605.toInt) (by decide : (0 : Int32).toInt = 0) c98606
      exact K85 z98600 z98601 z98605 _ _ _ _ (by omega) (by omega) hT hfr  (lv_sub hl [2, 3, 4, 5, 6, 7, 1, 0] rfl)
    · have w98608 := cv_nlt (rfl : z98605.toInt = z98605.toInt) (by decide : (0 : Int32).toInt = 0) c98606
      refine lv_iload hx hb dX0_cheapest_50 (lv_at hl 0 rfl) ?_
      refine lv_aload_n hx hb dX0_cheapest_52 rfl (lv_at hl 2 rfl) ?_
      refine t_get (C := RX0) (T := TX0) (N := 2) X hT m0 g0 rfl rfl 0 (by decide) qw_88 inlX0 rfl dX0_cheapest_53 (fun v98609 hv98609 ov98609 => ?_)
      obtain rfl : v98609 = .ref b98603 := hv98609.symm.trans hv98602
      refine t_alen X hT mb98603 gb98603 rfl (by decide) dX0_cheapest_56 ?_
      refine lv_topi (fun z98610 ez98610 => ?_)
      obtain rfl : z98610 = 48 := ez98610.trans (by rfl)
      refine lv_icmp_ge (tgt := 85) hx hb dX0_cheapest_57 (by decide) (fun c98611 => ?_) (fun c98611 => ?_)
      · have w98612 := cv_le (by decide : (48 : Int32).toInt = 48) (rfl : z98605.toInt = z98605.toInt) c98611
        exact K85 z98600 z98601 z98605 _ _ _ _ (by omega) (by omega) hT hfr  (lv_sub hl [2, 3, 4, 5, 6, 7, 1, 0] rfl)
      · have w98613 := cv_nle (by decide : (48 : Int32).toInt = 48) (rfl : z98605.toInt = z98605.toInt) c98611
        refine lv_aload_n hx hb dX0_cheapest_60 rfl (lv_at hl 2 rfl) ?_
        refine t_get (C := RX0) (T := TX0) (N := 2) X hT m0 g0 rfl rfl 0 (by decide) qw_88 inlX0 rfl dX0_cheapest_61 (fun v98614 hv98614 ov98614 => ?_)
        obtain rfl : v98614 = .ref b98603 := hv98614.symm.trans hv98602
        refine lv_iload hx hb dX0_cheapest_64 (lv_at hl 0 rfl) ?_
        refine lv_aload_n hx hb dX0_cheapest_66 rfl (lv_at hl 4 rfl) ?_
        refine lv_iload_n hx hb dX0_cheapest_67 rfl (lv_at hl 5 rfl) ?_
        refine lv_iload hx hb dX0_cheapest_68 (lv_at hl 7 rfl) ?_
        refine t_cSi (n := 3) (As := [.ref p2, .int p3, .int z98600]) (rest := [.int z98605, .ref b98603]) X hT (kt328_X0_byDoor l G tag L F hT.2.2.2 p2 p3 z98600 m2 g2) qw_1025 qw_1026 qw_36 qw_1027 ⟨by decide +kernel, by decide +kernel, by decide +kernel⟩ ⟨Nat.le_of_ble_eq_true rfl, Nat.le_of_ble_eq_true rfl⟩ hl rfl rfl (Nat.le_of_ble_eq_true rfl) dX0_cheapest_70 ⟨Nat.le_of_ble_eq_true rfl, Nat.le_of_ble_eq_true rfl⟩ (fun z98615 F9 H locs hT hz98615 => ?_)
        obtain ⟨fz98615, hz98615⟩ := hz98615
        rw [fz98615] at hT
        refine lv_aload_n hx hb dX0_cheapest_73 rfl (lv_at hl 3 rfl) ?_
        refine lv_aload_n hx hb dX0_cheapest_74 rfl (lv_at hl 4 rfl) ?_
        refine lv_iload_n hx hb dX0_cheapest_75 rfl (lv_at hl 5 rfl) ?_
        refine lv_iload hx hb dX0_cheapest_76 (lv_at hl 7 rfl) ?_
        refine t_cSi (n := 4) (As := [.ref p1, .ref p2, .int p3, .int z98600]) (rest := [.int z98615, .int z98605, .ref b98603]) X hT (kt329_X0_byWall l G tag L F hT.2.2.2 p1 p2 p3 z98600 m1 g1 m2 g2) qw_1031 qw_1032 qw_36 qw_1033 ⟨by decide +kernel, by decide +kernel, by decide +kernel⟩ ⟨Nat.le_of_ble_eq_true rfl, Nat.le_of_ble_eq_true rfl⟩ hl rfl rfl (Nat.le_of_ble_eq_true rfl) dX0_cheapest_78 ⟨Nat.le_of_ble_eq_true rfl, Nat.le_of_ble_eq_true rfl⟩ (fun z98616 F9 H locs hT hz98616 => ?_)
        obtain ⟨fz98616, hz98616⟩ := hz98616
        rw [fz98616] at hT
        refine t_mmin X hl qw_1017 qw_1018 qw_850 qw_1019 (Nat.le_of_ble_eq_true rfl) (Nat.le_of_ble_eq_true rfl) (Nat.le_of_ble_eq_true rfl) (Nat.le_of_ble_eq_true rfl) dX0_cheapest_81 (fun z98617 ez98617 => ?_)
        have hz98617 := mmin_e ez98617 (rfl : z98615.toInt = z98615.toInt) (rfl : z98616.toInt = z98616.toInt)
        refine t_ist X hT mb98603 gb98603 rfl (by omega) (show (-2147483648) ≤ (z98617 : Int32).toInt ∧ (z98617 : Int32).toInt ≤ 2147483647 from (by omega)) dX0_cheapest_84 (fun F H locs hT v98618 h1v98618 h2v98618 => ?_)
        have hv98602 := (h2v98618 _ _).trans hv98602
        have hfr : (∀ b j : Nat, (tag b ≠ 21 ∨ j ≠ 0) → (tag b ≠ 21 ∨ j ≠ 1) → fld F b j = fld Fo b j) ∧ EF tag F Fo := ⟨fun b j n21_0 n21_1 => (h2v98618 b j).trans (hfr.1 b j n21_0 n21_1), fun b j hb => (h1v98618 b j (Or.inl (ns_ne hb gb98603 (by decide)))).trans (hfr.2 b j hb)⟩
        exact K85 z98600 z98601 z98605 _ _ _ _ (by omega) (by omega) hT hfr  (lv_sub hl [2, 3, 4, 5, 6, 7, 1, 0] rfl)
  refine lv_aload_n hx hb dX0_cheapest_0 rfl (lv_at hl 2 rfl) ?_
  refine t_get (C := RX7) (T := TX7) (N := 7) X hT m2 g2 rfl rfl 2 (by decide) qw_1016 inlX7 rfl dX0_cheapest_1 (fun v98619 hv98619 ov98619 => ?_)
  obtain ⟨b98620, rfl, mb98620, gb98620⟩ := okV_r ov98619
  have gb98620 : tag b98620 = 8 := tg_of gb98620
  refine lv_iload_n hx hb dX0_cheapest_4 rfl (lv_at hl 3 rfl) ?_
  refine t_ild X hT mb98620 gb98620 rfl (by omega) dX0_cheapest_5 (fun z98621 vz98621 rz98621 => ?_)
  have rz98621 : 0 ≤ z98621.toInt ∧ z98621.toInt ≤ 6 := rz98621
  refine lv_istore (lv' := [(5, .int z98621), (0, .ref p0), (1, .ref p1), (2, .ref p2), (3, .int p3), (4, .int p4)]) hx hb dX0_cheapest_6 hl (by decide) rfl (fun ls hl => ?_)
  refine lv_iload hx hb dX0_cheapest_8 (lv_at hl 0 rfl) ?_
  refine lv_if_ne (tgt := 15) hx hb dX0_cheapest_10 (by decide) (fun c98622 => ?_) (fun c98622 => ?_)
  · have w98623 := cv_ne (rfl : z98621.toInt = z98621.toInt) (by decide : (0 : Int32).toInt = 0) c98622
    refine lv_iload hx hb dX0_cheapest_15 (lv_at hl 5 rfl) ?_
    refine lv_iconst (v := 1) hx hb dX0_cheapest_17 (by decide) ?_
    refine lv_icmp_ge (tgt := 25) hx hb dX0_cheapest_18 (by decide) (fun c98624 => ?_) (fun c98624 => ?_)
    · have w98625 := cv_le (by decide : (1 : Int32).toInt = 1) (rfl : p4.toInt = p4.toInt) c98624
      refine lv_iload hx hb dX0_cheapest_25 (lv_at hl 5 rfl) ?_
      exact K27 z98621 p4 _ _ _ _ (by omega) (by omega) hT hfr  (lv_sub hl [1, 2, 3, 4, 5, 0] rfl)
    · have w98626 := cv_nle (by decide : (1 : Int32).toInt = 1) (rfl : p4.toInt = p4.toInt) c98624
      refine lv_iconst (v := 1) hx hb dX0_cheapest_21 (by decide) ?_
      refine lv_goto (tgt := 27) hx hb dX0_cheapest_22 (by decide) ?_
      exact K27 z98621 1 _ _ _ _ (by omega) (by decide) hT hfr  (lv_sub hl [1, 2, 3, 4, 5, 0] rfl)
  · have w98627 := cv_eq (rfl : z98621.toInt = z98621.toInt) (by decide : (0 : Int32).toInt = 0) c98622
    refine lv_iconst (v := 0) hx hb dX0_cheapest_13 (by decide) ?_
    exact t_iret hQ X hT (⟨(by decide), hfr⟩) (Nat.le_of_ble_eq_true rfl) (Nat.le_of_ble_eq_true rfl) dX0_cheapest_14
set_option maxHeartbeats 4000000 in
set_option maxRecDepth 100000 in
theorem kt336_X10_burn (l : Launch) (G : KG) (tag : Nat → Nat) (L : List Nat) (Fo : Nat → va_E) (ho : okT G ttC tag L Fo) (p0 : Nat) (p1 : Nat) (p2 : Int32) (m0 : p0 ∈ L) (g0 : tag p0 = 18) (m1 : p1 ∈ L) (g1 : tag p1 = 19) (h2 : 0 ≤ p2.toInt ∧ p2.toInt ≤ 3) : TMv l yX10_burn cX10_burn 5 { frames := 1, cells := 0, slots := 0, locals := 25 } G ttC tag L Fo [.ref p0, .ref p1, .int p2] (fun F1 => ((∀ b j : Nat, fld F1 b j = fld Fo b j) ∧ EF tag F1 Fo)) := by
  refine t_bodyv (y := yX10_burn) (cd := cX10_burn) (mL := 5) (rm := { frames := 1, cells := 0, slots := 0, locals := 25 }) (av := [.ref p0, .ref p1, .int p2]) (by decide) (Nat.le_of_ble_eq_true rfl) ho ?_
  intro p e s m args below meth c ls A Q hQ X hT hl
  have hx := X.1.1
  have hb := X.1.2.1
  have hl : lv_has ls 5 [(0, .ref p0), (1, .ref p1), (2, .int p2)] := hl
  obtain ⟨F, hFo⟩ : ∃ F : Nat → va_E, F = Fo := ⟨_, rfl⟩
  rw [← hFo] at hT
  have hfr : (∀ b j : Nat, fld F b j = fld Fo b j) ∧ EF tag F Fo := by
    rw [hFo]
    exact ⟨by intros; rfl, fun _ _ _ => rfl⟩
  have K2 : ∀ (n : Nat) (z99106 : Int32) (F : Nat → va_E) (H : Heap) (locs : List Loc) (ls : Array Slot), (7 - z99106.toInt < (n : Int)) → (1 ≤ z99106.toInt ∧ z99106.toInt ≤ 7) → TH G ttC A s tag L F H locs → ((∀ b j : Nat, fld F b j = fld Fo b j) ∧ EF tag F Fo) → lv_has ls 5 [(0, .ref p0), (1, .ref p1), (2, .int p2), (3, .int z99106)] → W p l e { frames := 1, cells := 0, slots := 0, locals := 25 } s m args below meth c H locs 0 0 Q (F0 m 2 ls []) := by
    intro n
    induction n with
    | zero =>
      intro z99106 F H locs ls hn rz99106 hT hfr hl
      exfalso
      omega
    | succ n ih2 =>
      intro z99106 F H locs ls hn rz99106 hT hfr hl
      have K59 : ∀ (z99108 : Int32) (F : Nat → va_E) (H : Heap) (locs : List Loc) (ls : Array Slot), (0 ≤ z99108.toInt ∧ z99108.toInt ≤ 1) → (1 ≤ z99106.toInt ∧ z99106.toInt ≤ 6) → TH G ttC A s tag L F H locs → ((∀ b j : Nat, fld F b j = fld Fo b j) ∧ EF tag F Fo) → lv_has ls 5 [(0, .ref p0), (1, .ref p1), (2, .int p2), (3, .int z99106), (4, .int z99108)] → W p l e { frames := 1, cells := 0, slots := 0, locals := 25 } s m args below meth c H locs 0 0 Q (F0 m 59 ls []) := by
        intro z99108 F H locs ls rz99108 r9s99107 hT hfr hl
        obtain ⟨z99109, ez99109⟩ : ∃ y : Int32, y = z99106 + 1 := ⟨_, rfl⟩
        have hz99109 : z99109.toInt = z99106.toInt + 1 := ar_add ez99109 rfl (by decide : (1 : Int32).toInt = 1) (by omega) (by omega)
        refine lv_iinc (v := z99109) (lv' := [(3, .int z99109), (0, .ref p0), (1, .ref p1), (2, .int p2), (4, .int z99108)]) hx hb dX10_burn_59 hl (k := 3) rfl (by rw [ez99109]; rfl) (by decide) rfl (fun ls hl => ?_)
        refine lv_goto (tgt := 2) hx hb dX10_burn_62 (by decide) ?_
        exact ih2 z99109 _ _ _ _ (by omega) (by omega) hT hfr  (lv_sub hl [1, 2, 3, 0] rfl)
      have K33 : ∀ (z99111 : Int32) (F : Nat → va_E) (H : Heap) (locs : List Loc) (ls : Array Slot), (0 ≤ z99111.toInt ∧ z99111.toInt ≤ 1) → (1 ≤ z99106.toInt ∧ z99106.toInt ≤ 6) → TH G ttC A s tag L F H locs → ((∀ b j : Nat, fld F b j = fld Fo b j) ∧ EF tag F Fo) → lv_has ls 5 [(0, .ref p0), (1, .ref p1), (2, .int p2), (3, .int z99106)] → W p l e { frames := 1, cells := 0, slots := 0, locals := 25 } s m args below meth c H locs 0 0 Q (F0 m 33 ls [.int z99111]) := by
        intro z99111 F H locs ls rz99111 r9s99110 hT hfr hl
        refine lv_istore (lv' := [(4, .int z99111), (0, .ref p0), (1, .ref p1), (2, .int p2), (3, .int z99106)]) hx hb dX10_burn_33 hl (by decide) rfl (fun ls hl => ?_)
        refine lv_iload hx hb dX10_burn_35 (lv_at hl 0 rfl) ?_
        refine lv_if_eq (tgt := 59) hx hb dX10_burn_37 (by decide) (fun c99112 => ?_) (fun c99112 => ?_)
        · have w99113 := cv_eq (rfl : z99111.toInt = z99111.toInt) (by decide : (0 : Int32).toInt = 0) c99112
          exact K59 z99111 _ _ _ _ (by omega) (by omega) hT hfr  (lv_sub hl [1, 2, 3, 4, 0] rfl)
        · have w99114 := cv_ne (rfl : z99111.toInt = z99111.toInt) (by decide : (0 : Int32).toInt = 0) c99112
          refine lv_aload_n hx hb dX10_burn_40 rfl (lv_at hl 2 rfl) ?_
          refine lv_iload_n hx hb dX10_burn_41 rfl (lv_at hl 3 rfl) ?_
          refine lv_iload_n hx hb dX10_burn_42 rfl (lv_at hl 4 rfl) ?_
          refine lv_bipush (v := 6) hx hb dX10_burn_43 (by decide) ?_
          refine t_cVi (n := 3) (C := RX7) (T := TX7) (N := 7) (As := [.int p2, .int z99106, .int 6]) (rest := []) X hT (kt309_X7_partOf l G tag L F hT.2.2.2 p1 p2 z99106 6 m1 g1) m1 g1 rfl rfl qw_1121 qw_778 qw_779 qw_22 qw_780 ⟨rfl, by decide +kernel, by decide +kernel, by decide +kernel⟩ ⟨Nat.le_of_ble_eq_true rfl, Nat.le_of_ble_eq_true rfl⟩ hl rfl rfl (Nat.le_of_ble_eq_true rfl) dX10_burn_45 ⟨Nat.le_of_ble_eq_true rfl, Nat.le_of_ble_eq_true rfl⟩ (fun z99115 F9 H locs hT hz99115 => ?_)
          obtain ⟨fz99115, hz99115⟩ := hz99115
          rw [fz99115] at hT
          refine lv_if_ne (tgt := 59) hx hb dX10_burn_48 (by decide) (fun c99116 => ?_) (fun c99116 => ?_)
          · have w99117 := cv_ne (rfl : z99115.toInt = z99115.toInt) (by decide : (0 : Int32).toInt = 0) c99116
            exact K59 z99111 _ _ _ _ (by omega) (by omega) hT hfr  (lv_sub hl [1, 2, 3, 4, 0] rfl)
          · have w99118 := cv_eq (rfl : z99115.toInt = z99115.toInt) (by decide : (0 : Int32).toInt = 0) c99116
            refine lv_aload_n hx hb dX10_burn_51 rfl (lv_at hl 2 rfl) ?_
            refine lv_iload_n hx hb dX10_burn_52 rfl (lv_at hl 3 rfl) ?_
            refine lv_iload_n hx hb dX10_burn_53 rfl (lv_at hl 4 rfl) ?_
            refine lv_iconst (v := 5) hx hb dX10_burn_54 (by decide) ?_
            refine lv_iconst (v := 1) hx hb dX10_burn_55 (by decide) ?_
            refine t_cVv (n := 4) (C := RX7) (T := TX7) (N := 7) (As := [.int p2, .int z99106, .int 5, .int 1]) (rest := []) X hT (kt310_X7_setPart l G tag L F hT.2.2.2 p1 p2 z99106 5 1 m1 g1) m1 g1 rfl rfl qw_1124 qw_423 qw_424 qw_22 qw_425 ⟨rfl, by decide +kernel, by decide +kernel, by decide +kernel⟩ ⟨Nat.le_of_ble_eq_true rfl, Nat.le_of_ble_eq_true rfl⟩ hl rfl rfl (Nat.le_of_ble_eq_true rfl) dX10_burn_56 ⟨Nat.le_of_ble_eq_true rfl, Nat.le_of_ble_eq_true rfl⟩ (fun F H locs hT hz99119 => ?_)
            have yz99119 := hz99119
            have hfr : (∀ b j : Nat, fld F b j = fld Fo b j) ∧ EF tag F Fo := ⟨fun b j  => (yz99119.1 b j ).trans (hfr.1 b j ), fun b j hb => (yz99119.2 b j hb).trans (hfr.2 b j hb)⟩
            exact K59 z99111 _ _ _ _ (by omega) (by omega) hT hfr  (lv_sub hl [1, 2, 3, 4, 0] rfl)
      refine lv_iload_n hx hb dX10_burn_2 rfl (lv_at hl 3 rfl) ?_
      refine lv_aload_n hx hb dX10_burn_3 rfl (lv_at hl 1 rfl) ?_
      refine t_get (C := RX7) (T := TX7) (N := 7) X hT m1 g1 rfl rfl 2 (by decide) qw_1119 inlX7 rfl dX10_burn_4 (fun v99120 hv99120 ov99120 => ?_)
      obtain ⟨b99121, rfl, mb99121, gb99121⟩ := okV_r ov99120
      have gb99121 : tag b99121 = 8 := tg_of gb99121
      refine lv_iload_n hx hb dX10_burn_7 rfl (lv_at hl 2 rfl) ?_
      refine t_ild X hT mb99121 gb99121 rfl (by omega) dX10_burn_8 (fun z99122 vz99122 rz99122 => ?_)
      have rz99122 : 0 ≤ z99122.toInt ∧ z99122.toInt ≤ 6 := rz99122
      refine lv_icmp_gt (tgt := 65) hx hb dX10_burn_9 (by decide) (fun c99123 => ?_) (fun c99123 => ?_)
      · have w99124 := cv_lt (rfl : z99122.toInt = z99122.toInt) (rfl : z99106.toInt = z99106.toInt) c99123
        exact t_vret hQ X hT hfr (Nat.le_of_ble_eq_true rfl) (Nat.le_of_ble_eq_true rfl) dX10_burn_65
      · have w99125 := cv_nlt (rfl : z99122.toInt = z99122.toInt) (rfl : z99106.toInt = z99106.toInt) c99123
        refine lv_aload_n hx hb dX10_burn_12 rfl (lv_at hl 0 rfl) ?_
        refine lv_aload_n hx hb dX10_burn_13 rfl (lv_at hl 1 rfl) ?_
        refine lv_iload_n hx hb dX10_burn_14 rfl (lv_at hl 2 rfl) ?_
        refine lv_iload_n hx hb dX10_burn_15 rfl (lv_at hl 3 rfl) ?_
        refine lv_iconst (v := 0) hx hb dX10_burn_16 (by decide) ?_
        refine t_cVi (n := 3) (C := RX7) (T := TX7) (N := 7) (As := [.int p2, .int z99106, .int 0]) (rest := [.ref p0]) X hT (kt309_X7_partOf l G tag L F hT.2.2.2 p1 p2 z99106 0 m1 g1) m1 g1 rfl rfl qw_1121 qw_778 qw_779 qw_22 qw_780 ⟨rfl, by decide +kernel, by decide +kernel, by decide +kernel⟩ ⟨Nat.le_of_ble_eq_true rfl, Nat.le_of_ble_eq_true rfl⟩ hl rfl rfl (Nat.le_of_ble_eq_true rfl) dX10_burn_17 ⟨Nat.le_of_ble_eq_true rfl, Nat.le_of_ble_eq_true rfl⟩ (fun z99126 F9 H locs hT hz99126 => ?_)
        obtain ⟨fz99126, hz99126⟩ := hz99126
        rw [fz99126] at hT
        refine lv_iconst (v := 0) hx hb dX10_burn_20 (by decide) ?_
        refine t_cVi (n := 2) (C := RX1) (T := TX1) (N := 20) (As := [.int z99126, .int 0]) (rest := []) X hT (kt303_X1_stonePart l G tag L F hT.2.2.2 p0 z99126 0 m0 g0) m0 g0 rfl rfl qw_1122 qw_858 qw_859 qw_17 qw_860 ⟨rfl, by decide +kernel, by decide +kernel, by decide +kernel⟩ ⟨Nat.le_of_ble_eq_true rfl, Nat.le_of_ble_eq_true rfl⟩ hl rfl rfl (Nat.le_of_ble_eq_true rfl) dX10_burn_21 ⟨Nat.le_of_ble_eq_true rfl, Nat.le_of_ble_eq_true rfl⟩ (fun z99127 F9 H locs hT hz99127 => ?_)
        obtain ⟨fz99127, hz99127⟩ := hz99127
        rw [fz99127] at hT
        refine lv_iconst (v := 2) hx hb dX10_burn_24 (by decide) ?_
        refine lv_icmp_ne (tgt := 32) hx hb dX10_burn_25 (by decide) (fun c99128 => ?_) (fun c99128 => ?_)
        · have w99129 := cv_ne (rfl : z99127.toInt = z99127.toInt) (by decide : (2 : Int32).toInt = 2) c99128
          refine lv_iconst (v := 0) hx hb dX10_burn_32 (by decide) ?_
          exact K33 0 _ _ _ _ (by decide) (by omega) hT hfr  (lv_sub hl [0, 1, 2, 3] rfl)
        · have w99130 := cv_eq (rfl : z99127.toInt = z99127.toInt) (by decide : (2 : Int32).toInt = 2) c99128
          refine lv_iconst (v := 1) hx hb dX10_burn_28 (by decide) ?_
          refine lv_goto (tgt := 33) hx hb dX10_burn_29 (by decide) ?_
          exact K33 1 _ _ _ _ (by decide) (by omega) hT hfr  (lv_sub hl [0, 1, 2, 3] rfl)
  refine lv_iconst (v := 1) hx hb dX10_burn_0 (by decide) ?_
  refine lv_istore_n (lv' := [(3, .int 1), (0, .ref p0), (1, .ref p1), (2, .int p2)]) hx hb dX10_burn_1 rfl hl (by decide) rfl (fun ls hl => ?_)
  have kk99131 : (1 : Int32).toInt = 1 := by decide
  exact K2 7 1 _ _ _ _ (by omega) (by decide) hT hfr  (lv_sub hl [1, 2, 3, 0] rfl)
set_option maxHeartbeats 4000000 in
set_option maxRecDepth 100000 in
theorem kt337_X6_isFrontFree (l : Launch) (G : KG) (tag : Nat → Nat) (L : List Nat) (F : Nat → va_E) (ho : okT G ttC tag L F) (p0 : Nat) (p1 : Nat) (p2 : Int32) (p3 : Int32) (p4 : Int32) (p5 : Int32) (m0 : p0 ∈ L) (g0 : tag p0 = 18) (m1 : p1 ∈ L) (g1 : tag p1 = 19) (h2 : 0 ≤ p2.toInt ∧ p2.toInt ≤ 3) (h4 : 0 ≤ p4.toInt ∧ p4.toInt ≤ 3) : TMi l yX6_isFrontFree cX6_isFrontFree 9 (some .boolean) { frames := 2, cells := 0, slots := 0, locals := 49 } G ttC tag L F [.ref p0, .ref p1, .int p2, .int p3, .int p4, .int p5] (fun r F1 => F1 = F ∧ (0 ≤ r.toInt ∧ r.toInt ≤ 1)) := by
  refine t_bodyi (y := yX6_isFrontFree) (cd := cX6_isFrontFree) (mL := 9) (rt := (some .boolean)) (rm := { frames := 2, cells := 0, slots := 0, locals := 49 }) (av := [.ref p0, .ref p1, .int p2, .int p3, .int p4, .int p5]) (by decide) (Nat.le_of_ble_eq_true rfl) ho ?_
  intro p e s m args below meth c ls A Q hQ X hT hl
  have hx := X.1.1
  have hb := X.1.2.1
  have hl : lv_has ls 9 [(0, .ref p0), (1, .ref p1), (2, .int p2), (3, .int p3), (4, .int p4), (5, .int p5)] := hl
  have rp3 := rg_all p3
  have rp5 := rg_all p5
  refine lv_iload_n hx hb dX6_isFrontFree_0 rfl (lv_at hl 3 rfl) ?_
  refine lv_iload hx hb dX6_isFrontFree_1 (lv_at hl 4 rfl) ?_
  refine lv_iload hx hb dX6_isFrontFree_3 (lv_at hl 5 rfl) ?_
  refine t_cSi (n := 3) (As := [.int p3, .int p4, .int p5]) (rest := []) X hT (kt296_X4_doorPlace l G tag L F hT.2.2.2 p3 p4 p5 ) qw_784 qw_785 qw_409 qw_786 ⟨by decide +kernel, by decide +kernel, by decide +kernel⟩ ⟨Nat.le_of_ble_eq_true rfl, Nat.le_of_ble_eq_true rfl⟩ hl rfl rfl (Nat.le_of_ble_eq_true rfl) dX6_isFrontFree_5 ⟨Nat.le_of_ble_eq_true rfl, Nat.le_of_ble_eq_true rfl⟩ (fun z99439 F9 H locs hT hz99439 => ?_)
  obtain ⟨fz99439, hz99439⟩ := hz99439
  rw [fz99439] at hT
  refine lv_istore (lv' := [(6, .int z99439), (0, .ref p0), (1, .ref p1), (2, .int p2), (3, .int p3), (4, .int p4), (5, .int p5)]) hx hb dX6_isFrontFree_8 hl (by decide) rfl (fun ls hl => ?_)
  refine lv_aload_n hx hb dX6_isFrontFree_10 rfl (lv_at hl 1 rfl) ?_
  refine t_get (C := RX1) (T := TX1) (N := 20) X hT m0 g0 rfl rfl 11 (by decide) qw_405 inlX1 rfl dX6_isFrontFree_11 (fun v99440 hv99440 ov99440 => ?_)
  obtain ⟨b99441, rfl, mb99441, gb99441⟩ := okV_r ov99440
  have gb99441 : tag b99441 = 4 := tg_of gb99441
  refine lv_iload_n hx hb dX6_isFrontFree_14 rfl (lv_at hl 3 rfl) ?_
  refine t_ild X hT mb99441 gb99441 rfl (by omega) dX6_isFrontFree_15 (fun z99442 vz99442 rz99442 => ?_)
  have rz99442 : 0 ≤ z99442.toInt ∧ z99442.toInt ≤ 11 := rz99442
  refine lv_iload_n hx hb dX6_isFrontFree_16 rfl (lv_at hl 4 rfl) ?_
  refine lv_iload hx hb dX6_isFrontFree_17 (lv_at hl 0 rfl) ?_
  refine t_cSi (n := 2) (As := [.int p3, .int z99439]) (rest := [.int z99442]) X hT (kt294_X4_eastOf l G tag L F hT.2.2.2 p3 z99439 ) qw_407 qw_408 qw_409 qw_410 ⟨by decide +kernel, by decide +kernel, by decide +kernel⟩ ⟨Nat.le_of_ble_eq_true rfl, Nat.le_of_ble_eq_true rfl⟩ hl rfl rfl (Nat.le_of_ble_eq_true rfl) dX6_isFrontFree_19 ⟨Nat.le_of_ble_eq_true rfl, Nat.le_of_ble_eq_true rfl⟩ (fun z99443 F9 H locs hT hz99443 => ?_)
  obtain ⟨fz99443, hz99443⟩ := hz99443
  rw [fz99443] at hT
  refine lv_iadd hx hb dX6_isFrontFree_22 ?_
  refine lv_topi (fun z99444 ez99444 => ?_)
  have rz99444 := rg_all z99444
  refine t_getsN X hT X.2.2.2.1.2.1.1 (List.mem_of_getElem? (i := 0) rfl) dX6_isFrontFree_23 ?_
  refine lv_iload hx hb dX6_isFrontFree_26 (lv_at hl 5 rfl) ?_
  refine t_tild X hT X.2.2.2.1.2.1.1 (by omega) dX6_isFrontFree_28 (fun z99445 ez99445 => ?_)
  have rz99445 : (-1) ≤ z99445.toInt ∧ z99445.toInt ≤ 1 := by rw [ez99445]; exact gEast_r _
  refine lv_iadd hx hb dX6_isFrontFree_29 ?_
  refine lv_topi (fun z99446 ez99446 => ?_)
  have rz99446 := rg_all z99446
  refine lv_istore (lv' := [(7, .int z99446), (6, .int z99439), (0, .ref p0), (1, .ref p1), (2, .int p2), (3, .int p3), (4, .int p4), (5, .int p5)]) hx hb dX6_isFrontFree_30 hl (by decide) rfl (fun ls hl => ?_)
  refine lv_aload_n hx hb dX6_isFrontFree_32 rfl (lv_at hl 2 rfl) ?_
  refine t_get (C := RX1) (T := TX1) (N := 20) X hT m0 g0 rfl rfl 12 (by decide) qw_406 inlX1 rfl dX6_isFrontFree_33 (fun v99447 hv99447 ov99447 => ?_)
  obtain ⟨b99448, rfl, mb99448, gb99448⟩ := okV_r ov99447
  have gb99448 : tag b99448 = 4 := tg_of gb99448
  refine lv_iload_n hx hb dX6_isFrontFree_36 rfl (lv_at hl 4 rfl) ?_
  refine t_ild X hT mb99448 gb99448 rfl (by omega) dX6_isFrontFree_37 (fun z99449 vz99449 rz99449 => ?_)
  have rz99449 : 0 ≤ z99449.toInt ∧ z99449.toInt ≤ 11 := rz99449
  refine lv_iload_n hx hb dX6_isFrontFree_38 rfl (lv_at hl 5 rfl) ?_
  refine lv_iload hx hb dX6_isFrontFree_39 (lv_at hl 1 rfl) ?_
  refine t_cSi (n := 2) (As := [.int p3, .int z99439]) (rest := [.int z99449]) X hT (kt295_X4_southOf l G tag L F hT.2.2.2 p3 z99439 ) qw_411 qw_412 qw_409 qw_413 ⟨by decide +kernel, by decide +kernel, by decide +kernel⟩ ⟨Nat.le_of_ble_eq_true rfl, Nat.le_of_ble_eq_true rfl⟩ hl rfl rfl (Nat.le_of_ble_eq_true rfl) dX6_isFrontFree_41 ⟨Nat.le_of_ble_eq_true rfl, Nat.le_of_ble_eq_true rfl⟩ (fun z99450 F9 H locs hT hz99450 => ?_)
  obtain ⟨fz99450, hz99450⟩ := hz99450
  rw [fz99450] at hT
  refine lv_iadd hx hb dX6_isFrontFree_44 ?_
  refine lv_topi (fun z99451 ez99451 => ?_)
  have rz99451 := rg_all z99451
  refine t_getsN X hT X.2.2.2.1.2.1.2.1 (List.mem_of_getElem? (i := 1) rfl) dX6_isFrontFree_45 ?_
  refine lv_iload hx hb dX6_isFrontFree_48 (lv_at hl 6 rfl) ?_
  refine t_tild X hT X.2.2.2.1.2.1.2.1 (by omega) dX6_isFrontFree_50 (fun z99452 ez99452 => ?_)
  have rz99452 : (-1) ≤ z99452.toInt ∧ z99452.toInt ≤ 1 := by rw [ez99452]; exact gSouth_r _
  refine lv_iadd hx hb dX6_isFrontFree_51 ?_
  refine lv_topi (fun z99453 ez99453 => ?_)
  have rz99453 := rg_all z99453
  refine lv_istore (lv' := [(8, .int z99453), (7, .int z99446), (6, .int z99439), (0, .ref p0), (1, .ref p1), (2, .int p2), (3, .int p3), (4, .int p4), (5, .int p5)]) hx hb dX6_isFrontFree_52 hl (by decide) rfl (fun ls hl => ?_)
  refine lv_aload_n hx hb dX6_isFrontFree_54 rfl (lv_at hl 3 rfl) ?_
  refine lv_aload_n hx hb dX6_isFrontFree_55 rfl (lv_at hl 4 rfl) ?_
  refine lv_iload hx hb dX6_isFrontFree_56 (lv_at hl 1 rfl) ?_
  refine lv_iload hx hb dX6_isFrontFree_58 (lv_at hl 0 rfl) ?_
  refine t_cSi (n := 4) (As := [.ref p0, .ref p1, .int z99446, .int z99453]) (rest := []) X hT (kt323_X6_isFree l G tag L F hT.2.2.2 p0 p1 z99446 z99453 m0 g0 m1 g1) qw_787 qw_379 qw_380 qw_381 ⟨by decide +kernel, by decide +kernel, by decide +kernel⟩ ⟨Nat.le_of_ble_eq_true rfl, Nat.le_of_ble_eq_true rfl⟩ hl rfl rfl (Nat.le_of_ble_eq_true rfl) dX6_isFrontFree_60 ⟨Nat.le_of_ble_eq_true rfl, Nat.le_of_ble_eq_true rfl⟩ (fun z99454 F9 H locs hT hz99454 => ?_)
  obtain ⟨fz99454, hz99454⟩ := hz99454
  rw [fz99454] at hT
  exact t_zret hQ X hT (nar_z (by omega)) (⟨rfl, (by omega)⟩) (Nat.le_of_ble_eq_true rfl) (Nat.le_of_ble_eq_true rfl) dX6_isFrontFree_63
set_option maxHeartbeats 4000000 in
set_option maxRecDepth 100000 in
theorem kt338_X6_lawDoor (l : Launch) (G : KG) (tag : Nat → Nat) (L : List Nat) (F : Nat → va_E) (ho : okT G ttC tag L F) (p0 : Nat) (p1 : Nat) (p2 : Int32) (m0 : p0 ∈ L) (g0 : tag p0 = 18) (m1 : p1 ∈ L) (g1 : tag p1 = 19) (h2 : 0 ≤ p2.toInt ∧ p2.toInt ≤ 3) : TMi l yX6_lawDoor cX6_lawDoor 12 (some .int) { frames := 3, cells := 0, slots := 0, locals := 77 } G ttC tag L F [.ref p0, .ref p1, .int p2] (fun r F1 => F1 = F ∧ ((-2) ≤ r.toInt ∧ r.toInt ≤ 900)) := by
  refine t_bodyi (y := yX6_lawDoor) (cd := cX6_lawDoor) (mL := 12) (rt := (some .int)) (rm := { frames := 3, cells := 0, slots := 0, locals := 77 }) (av := [.ref p0, .ref p1, .int p2]) (by decide) (Nat.le_of_ble_eq_true rfl) ho ?_
  intro p e s m args below meth c ls A Q hQ X hT hl
  have hx := X.1.1
  have hb := X.1.2.1
  have hl : lv_has ls 12 [(0, .ref p0), (1, .ref p1), (2, .int p2)] := hl
  have K42 : ∀ (n : Nat) (z100777 : Int32) (z100778 : Int32) (z100779 : Int32) (z100780 : Int32) (z100781 : Int32) (z100782 : Int32) (H : Heap) (locs : List Loc) (ls : Array Slot), (4 - z100782.toInt < (n : Int)) → (0 ≤ z100777.toInt ∧ z100777.toInt ≤ 6) → (1 ≤ z100778.toInt ∧ z100778.toInt ≤ 7) → ((-2) ≤ z100780.toInt ∧ z100780.toInt ≤ 900) → (0 ≤ z100782.toInt ∧ z100782.toInt ≤ 4) → TH G ttC A s tag L F H locs → lv_has ls 12 [(0, .ref p0), (1, .ref p1), (2, .int p2), (3, .int z100777), (4, .int z100778), (5, .int z100779), (6, .int z100780), (7, .int z100781), (8, .int z100782)] → W p l e { frames := 3, cells := 0, slots := 0, locals := 77 } s m args below meth c H locs 0 0 Q (F0 m 42 ls []) := by
    intro n
    induction n with
    | zero =>
      intro z100777 z100778 z100779 z100780 z100781 z100782 H locs ls hn rz100777 rz100778 rz100780 rz100782 hT hl
      have rz100779 := rg_all z100779
      have rz100781 := rg_all z100781
      exfalso
      omega
    | succ n ih42 =>
      intro z100777 z100778 z100779 z100780 z100781 z100782 H locs ls hn rz100777 rz100778 rz100780 rz100782 hT hl
      have rz100779 := rg_all z100779
      have rz100781 := rg_all z100781
      have K51 : ∀ (n : Nat) (z100783 : Int32) (z100784 : Int32) (z100786 : Int32) (H : Heap) (locs : List Loc) (ls : Array Slot), (13 - z100786.toInt < (n : Int)) → ((-2) ≤ z100783.toInt ∧ z100783.toInt ≤ 900) → (0 ≤ z100786.toInt ∧ z100786.toInt ≤ 13) → (0 ≤ z100782.toInt ∧ z100782.toInt ≤ 3) → TH G ttC A s tag L F H locs → lv_has ls 12 [(0, .ref p0), (1, .ref p1), (2, .int p2), (3, .int z100777), (4, .int z100778), (5, .int z100779), (6, .int z100783), (7, .int z100784), (8, .int z100782), (9, .int z100786)] → W p l e { frames := 3, cells := 0, slots := 0, locals := 77 } s m args below meth c H locs 0 0 Q (F0 m 51 ls []) := by
        intro n
        induction n with
        | zero =>
          intro z100783 z100784 z100786 H locs ls hn rz100783 rz100786 r9s100785 hT hl
          have rz100784 := rg_all z100784
          exfalso
          omega
        | succ n ih51 =>
          intro z100783 z100784 z100786 H locs ls hn rz100783 rz100786 r9s100785 hT hl
          have rz100784 := rg_all z100784
          have K160 : ∀ (z100787 : Int32) (z100788 : Int32) (z100790 : Int32) (z100791 : Int32) (H : Heap) (locs : List Loc) (ls : Array Slot), ((-2) ≤ z100787.toInt ∧ z100787.toInt ≤ 900) → (0 ≤ z100791.toInt ∧ z100791.toInt ≤ 1) → (0 ≤ z100786.toInt ∧ z100786.toInt ≤ 12) → TH G ttC A s tag L F H locs → lv_has ls 12 [(0, .ref p0), (1, .ref p1), (2, .int p2), (3, .int z100777), (4, .int z100778), (5, .int z100779), (6, .int z100787), (7, .int z100788), (8, .int z100782), (9, .int z100786), (10, .int z100790), (11, .int z100791)] → W p l e { frames := 3, cells := 0, slots := 0, locals := 77 } s m args below meth c H locs 0 0 Q (F0 m 160 ls []) := by
            intro z100787 z100788 z100790 z100791 H locs ls rz100787 rz100791 r9s100789 hT hl
            have rz100788 := rg_all z100788
            have rz100790 := rg_all z100790
            obtain ⟨z100792, ez100792⟩ : ∃ y : Int32, y = z100786 + 1 := ⟨_, rfl⟩
            have hz100792 : z100792.toInt = z100786.toInt + 1 := ar_add ez100792 rfl (by decide : (1 : Int32).toInt = 1) (by omega) (by omega)
            refine lv_iinc (v := z100792) (lv' := [(9, .int z100792), (0, .ref p0), (1, .ref p1), (2, .int p2), (3, .int z100777), (4, .int z100778), (5, .int z100779), (6, .int z100787), (7, .int z100788), (8, .int z100782), (10, .int z100790), (11, .int z100791)]) hx hb dX6_lawDoor_160 hl (k := 9) rfl (by rw [ez100792]; rfl) (by decide) rfl (fun ls hl => ?_)
            refine lv_goto (tgt := 51) hx hb dX6_lawDoor_163 (by decide) ?_
            exact ih51 z100787 z100788 z100792 _ _ _ (by omega) (by omega) (by omega) (by omega) hT  (lv_sub hl [1, 2, 3, 4, 5, 6, 7, 8, 9, 0] rfl)
          have K124 : ∀ (z100794 : Int32) (z100795 : Int32) (H : Heap) (locs : List Loc) (ls : Array Slot), (0 ≤ z100795.toInt ∧ z100795.toInt ≤ 1) → (0 ≤ z100786.toInt ∧ z100786.toInt ≤ 12) → TH G ttC A s tag L F H locs → lv_has ls 12 [(0, .ref p0), (1, .ref p1), (2, .int p2), (3, .int z100777), (4, .int z100778), (5, .int z100779), (6, .int z100783), (7, .int z100784), (8, .int z100782), (9, .int z100786), (10, .int z100794)] → W p l e { frames := 3, cells := 0, slots := 0, locals := 77 } s m args below meth c H locs 0 0 Q (F0 m 124 ls [.int z100795]) := by
            intro z100794 z100795 H locs ls rz100795 r9s100793 hT hl
            have rz100794 := rg_all z100794
            refine lv_istore (lv' := [(11, .int z100795), (0, .ref p0), (1, .ref p1), (2, .int p2), (3, .int z100777), (4, .int z100778), (5, .int z100779), (6, .int z100783), (7, .int z100784), (8, .int z100782), (9, .int z100786), (10, .int z100794)]) hx hb dX6_lawDoor_124 hl (by decide) rfl (fun ls hl => ?_)
            refine lv_iload hx hb dX6_lawDoor_126 (lv_at hl 0 rfl) ?_
            refine lv_if_eq (tgt := 160) hx hb dX6_lawDoor_128 (by decide) (fun c100796 => ?_) (fun c100796 => ?_)
            · have w100797 := cv_eq (rfl : z100795.toInt = z100795.toInt) (by decide : (0 : Int32).toInt = 0) c100796
              exact K160 z100783 z100784 z100794 z100795 _ _ _ (by omega) (by omega) (by omega) hT  (lv_sub hl [1, 2, 3, 4, 5, 6, 7, 8, 9, 10, 11, 0] rfl)
            · have w100798 := cv_ne (rfl : z100795.toInt = z100795.toInt) (by decide : (0 : Int32).toInt = 0) c100796
              refine lv_aload_n hx hb dX6_lawDoor_131 rfl (lv_at hl 1 rfl) ?_
              refine lv_aload_n hx hb dX6_lawDoor_132 rfl (lv_at hl 2 rfl) ?_
              refine lv_iload_n hx hb dX6_lawDoor_133 rfl (lv_at hl 3 rfl) ?_
              refine lv_iload hx hb dX6_lawDoor_134 (lv_at hl 5 rfl) ?_
              refine lv_iload hx hb dX6_lawDoor_136 (lv_at hl 9 rfl) ?_
              refine lv_iload hx hb dX6_lawDoor_138 (lv_at hl 10 rfl) ?_
              refine t_cSi (n := 6) (As := [.ref p0, .ref p1, .int p2, .int z100778, .int z100782, .int z100786]) (rest := []) X hT (kt337_X6_isFrontFree l G tag L F hT.2.2.2 p0 p1 p2 z100778 z100782 z100786 m0 g0 m1 g1 (by omega) (by omega)) qw_781 qw_782 qw_380 qw_783 ⟨by decide +kernel, by decide +kernel, by decide +kernel⟩ ⟨Nat.le_of_ble_eq_true rfl, Nat.le_of_ble_eq_true rfl⟩ hl rfl rfl (Nat.le_of_ble_eq_true rfl) dX6_lawDoor_140 ⟨Nat.le_of_ble_eq_true rfl, Nat.le_of_ble_eq_true rfl⟩ (fun z100799 F9 H locs hT hz100799 => ?_)
              obtain ⟨fz100799, hz100799⟩ := hz100799
              rw [fz100799] at hT
              refine lv_if_eq (tgt := 160) hx hb dX6_lawDoor_143 (by decide) (fun c100800 => ?_) (fun c100800 => ?_)
              · have w100801 := cv_eq (rfl : z100799.toInt = z100799.toInt) (by decide : (0 : Int32).toInt = 0) c100800
                exact K160 z100783 z100784 z100794 z100795 _ _ _ (by omega) (by omega) (by omega) hT  (lv_sub hl [1, 2, 3, 4, 5, 6, 7, 8, 9, 10, 11, 0] rfl)
              · have w100802 := cv_ne (rfl : z100799.toInt = z100799.toInt) (by decide : (0 : Int32).toInt = 0) c100800
                refine lv_bipush (v := 100) hx hb dX6_lawDoor_146 (by decide) ?_
                refine lv_iload hx hb dX6_lawDoor_148 (lv_at hl 9 rfl) ?_
                refine lv_imul hx hb dX6_lawDoor_150 ?_
                refine lv_topi (fun z100803 ez100803 => ?_)
                have hz100803 : z100803.toInt = 100 * z100782.toInt := ar_mul ez100803 (by decide : (100 : Int32).toInt = 100) (rfl : z100782.toInt = z100782.toInt) (by omega) (by omega)
                have rz100803 : 0 ≤ z100803.toInt ∧ z100803.toInt ≤ 300 := by omega
                refine lv_iload hx hb dX6_lawDoor_151 (lv_at hl 10 rfl) ?_
                refine lv_iadd hx hb dX6_lawDoor_153 ?_
                refine lv_topi (fun z100804 ez100804 => ?_)
                have hz100804 : z100804.toInt = z100803.toInt + z100786.toInt := ar_add ez100804 (rfl : z100803.toInt = z100803.toInt) (rfl : z100786.toInt = z100786.toInt) (by omega) (by omega)
                have rz100804 : 0 ≤ z100804.toInt ∧ z100804.toInt ≤ 312 := by omega
                refine lv_istore (lv' := [(6, .int z100804), (11, .int z100795), (0, .ref p0), (1, .ref p1), (2, .int p2), (3, .int z100777), (4, .int z100778), (5, .int z100779), (7, .int z100784), (8, .int z100782), (9, .int z100786), (10, .int z100794)]) hx hb dX6_lawDoor_154 hl (by decide) rfl (fun ls hl => ?_)
                refine lv_iload hx hb dX6_lawDoor_156 (lv_at hl 11 rfl) ?_
                refine lv_istore (lv' := [(7, .int z100794), (6, .int z100804), (11, .int z100795), (0, .ref p0), (1, .ref p1), (2, .int p2), (3, .int z100777), (4, .int z100778), (5, .int z100779), (8, .int z100782), (9, .int z100786), (10, .int z100794)]) hx hb dX6_lawDoor_158 hl (by decide) rfl (fun ls hl => ?_)
                exact K160 z100804 z100794 z100794 z100795 _ _ _ (by omega) (by omega) (by omega) hT  (lv_sub hl [3, 4, 5, 6, 7, 8, 1, 0, 9, 10, 11, 2] rfl)
          have K119 : ∀ (z100806 : Int32) (H : Heap) (locs : List Loc) (ls : Array Slot), (0 ≤ z100786.toInt ∧ z100786.toInt ≤ 12) → TH G ttC A s tag L F H locs → lv_has ls 12 [(0, .ref p0), (1, .ref p1), (2, .int p2), (3, .int z100777), (4, .int z100778), (5, .int z100779), (6, .int z100783), (7, .int z100784), (8, .int z100782), (9, .int z100786), (10, .int z100806)] → W p l e { frames := 3, cells := 0, slots := 0, locals := 77 } s m args below meth c H locs 0 0 Q (F0 m 119 ls []) := by
            intro z100806 H locs ls r9s100805 hT hl
            have rz100806 := rg_all z100806
            refine lv_iconst (v := 1) hx hb dX6_lawDoor_119 (by decide) ?_
            refine lv_goto (tgt := 124) hx hb dX6_lawDoor_120 (by decide) ?_
            exact K124 z100806 1 _ _ _ (by decide) (by omega) hT  (lv_sub hl [0, 1, 2, 3, 4, 5, 6, 7, 8, 9, 10] rfl)
          have K123 : ∀ (z100809 : Int32) (z100810 : Int32) (H : Heap) (locs : List Loc) (ls : Array Slot), (0 ≤ z100810.toInt ∧ z100810.toInt ≤ 1) → ((-1) ≤ z100783.toInt ∧ z100783.toInt ≤ 900) → (0 ≤ z100786.toInt ∧ z100786.toInt ≤ 12) → TH G ttC A s tag L F H locs → fld F p0 2 = .int z100810 → lv_has ls 12 [(0, .ref p0), (1, .ref p1), (2, .int p2), (3, .int z100777), (4, .int z100778), (5, .int z100779), (6, .int z100783), (7, .int z100784), (8, .int z100782), (9, .int z100786), (10, .int z100809)] → W p l e { frames := 3, cells := 0, slots := 0, locals := 77 } s m args below meth c H locs 0 0 Q (F0 m 123 ls []) := by
            intro z100809 z100810 H locs ls rz100810 r9s100807 r9s100808 hT qz100810 hl
            have rz100809 := rg_all z100809
            refine lv_iconst (v := 0) hx hb dX6_lawDoor_123 (by decide) ?_
            exact K124 z100809 0 _ _ _ (by decide) (by omega) hT  (lv_sub hl [0, 1, 2, 3, 4, 5, 6, 7, 8, 9, 10] rfl)
          have K86 : ∀ (z100812 : Int32) (H : Heap) (locs : List Loc) (ls : Array Slot), (0 ≤ z100786.toInt ∧ z100786.toInt ≤ 12) → TH G ttC A s tag L F H locs → lv_has ls 12 [(0, .ref p0), (1, .ref p1), (2, .int p2), (3, .int z100777), (4, .int z100778), (5, .int z100779), (6, .int z100783), (7, .int z100784), (8, .int z100782), (9, .int z100786)] → W p l e { frames := 3, cells := 0, slots := 0, locals := 77 } s m args below meth c H locs 0 0 Q (F0 m 86 ls [.int z100812]) := by
            intro z100812 H locs ls r9s100811 hT hl
            have rz100812 := rg_all z100812
            refine lv_istore (lv' := [(10, .int z100812), (0, .ref p0), (1, .ref p1), (2, .int p2), (3, .int z100777), (4, .int z100778), (5, .int z100779), (6, .int z100783), (7, .int z100784), (8, .int z100782), (9, .int z100786)]) hx hb dX6_lawDoor_86 hl (by decide) rfl (fun ls hl => ?_)
            refine lv_iload hx hb dX6_lawDoor_88 (lv_at hl 7 rfl) ?_
            refine lv_bipush (v := (-2)) hx hb dX6_lawDoor_90 (by decide) ?_
            refine lv_icmp_eq (tgt := 119) hx hb dX6_lawDoor_92 (by decide) (fun c100813 => ?_) (fun c100813 => ?_)
            · have w100814 := cv_eq (rfl : z100783.toInt = z100783.toInt) (by decide : ((-2) : Int32).toInt = (-2)) c100813
              exact K119 z100812 _ _ _ (by omega) hT  (lv_sub hl [1, 2, 3, 4, 5, 6, 7, 8, 9, 10, 0] rfl)
            · have w100815 := cv_ne (rfl : z100783.toInt = z100783.toInt) (by decide : ((-2) : Int32).toInt = (-2)) c100813
              refine lv_aload_n hx hb dX6_lawDoor_95 rfl (lv_at hl 1 rfl) ?_
              refine t_get (C := RX1) (T := TX1) (N := 20) X hT m0 g0 rfl rfl 2 (by decide) qw_916 inlX1 rfl dX6_lawDoor_96 (fun v100816 hv100816 ov100816 => ?_)
              obtain ⟨z100817, rfl, rz100817⟩ := okV_i ov100816
              refine lv_if_eq (tgt := 112) hx hb dX6_lawDoor_99 (by decide) (fun c100818 => ?_) (fun c100818 => ?_)
              · have w100819 := cv_eq (rfl : z100817.toInt = z100817.toInt) (by decide : (0 : Int32).toInt = 0) c100818
                refine lv_iload hx hb dX6_lawDoor_112 (lv_at hl 0 rfl) ?_
                refine lv_iload hx hb dX6_lawDoor_114 (lv_at hl 8 rfl) ?_
                refine lv_icmp_ge (tgt := 123) hx hb dX6_lawDoor_116 (by decide) (fun c100820 => ?_) (fun c100820 => ?_)
                · have w100821 := cv_le (rfl : z100784.toInt = z100784.toInt) (rfl : z100812.toInt = z100812.toInt) c100820
                  exact K123 z100812 z100817 _ _ _ (by omega) (by omega) (by omega) hT hv100816 (lv_sub hl [1, 2, 3, 4, 5, 6, 7, 8, 9, 10, 0] rfl)
                · have w100822 := cv_nle (rfl : z100784.toInt = z100784.toInt) (rfl : z100812.toInt = z100812.toInt) c100820
                  exact K119 z100812 _ _ _ (by omega) hT  (lv_sub hl [1, 2, 3, 4, 5, 6, 7, 8, 9, 10, 0] rfl)
              · have w100823 := cv_ne (rfl : z100817.toInt = z100817.toInt) (by decide : (0 : Int32).toInt = 0) c100818
                refine lv_iload hx hb dX6_lawDoor_102 (lv_at hl 0 rfl) ?_
                refine lv_iload hx hb dX6_lawDoor_104 (lv_at hl 8 rfl) ?_
                refine lv_icmp_le (tgt := 123) hx hb dX6_lawDoor_106 (by decide) (fun c100824 => ?_) (fun c100824 => ?_)
                · have w100825 := cv_le (rfl : z100812.toInt = z100812.toInt) (rfl : z100784.toInt = z100784.toInt) c100824
                  exact K123 z100812 z100817 _ _ _ (by omega) (by omega) (by omega) hT hv100816 (lv_sub hl [1, 2, 3, 4, 5, 6, 7, 8, 9, 10, 0] rfl)
                · have w100826 := cv_nle (rfl : z100812.toInt = z100812.toInt) (rfl : z100784.toInt = z100784.toInt) c100824
                  refine lv_goto (tgt := 119) hx hb dX6_lawDoor_109 (by decide) ?_
                  exact K119 z100812 _ _ _ (by omega) hT  (lv_sub hl [1, 2, 3, 4, 5, 6, 7, 8, 9, 10, 0] rfl)
          refine lv_iload hx hb dX6_lawDoor_51 (lv_at hl 9 rfl) ?_
          refine lv_iconst (v := 2) hx hb dX6_lawDoor_53 (by decide) ?_
          refine lv_iload hx hb dX6_lawDoor_54 (lv_at hl 4 rfl) ?_
          refine lv_imul hx hb dX6_lawDoor_56 ?_
          refine lv_topi (fun z100827 ez100827 => ?_)
          have hz100827 : z100827.toInt = 2 * z100778.toInt := ar_mul ez100827 (by decide : (2 : Int32).toInt = 2) (rfl : z100778.toInt = z100778.toInt) (by omega) (by omega)
          have rz100827 : 2 ≤ z100827.toInt ∧ z100827.toInt ≤ 14 := by omega
          refine lv_iconst (v := 2) hx hb dX6_lawDoor_57 (by decide) ?_
          refine lv_isub hx hb dX6_lawDoor_58 ?_
          refine lv_topi (fun z100828 ez100828 => ?_)
          have hz100828 : z100828.toInt = z100827.toInt - 2 := ar_sub ez100828 (rfl : z100827.toInt = z100827.toInt) (by decide : (2 : Int32).toInt = 2) (by omega) (by omega)
          have rz100828 : 0 ≤ z100828.toInt ∧ z100828.toInt ≤ 12 := by omega
          refine lv_icmp_gt (tgt := 166) hx hb dX6_lawDoor_59 (by decide) (fun c100829 => ?_) (fun c100829 => ?_)
          · have w100830 := cv_lt (rfl : z100828.toInt = z100828.toInt) (rfl : z100786.toInt = z100786.toInt) c100829
            obtain ⟨z100831, ez100831⟩ : ∃ y : Int32, y = z100782 + 1 := ⟨_, rfl⟩
            have hz100831 : z100831.toInt = z100782.toInt + 1 := ar_add ez100831 rfl (by decide : (1 : Int32).toInt = 1) (by omega) (by omega)
            refine lv_iinc (v := z100831) (lv' := [(8, .int z100831), (0, .ref p0), (1, .ref p1), (2, .int p2), (3, .int z100777), (4, .int z100778), (5, .int z100779), (6, .int z100783), (7, .int z100784), (9, .int z100786)]) hx hb dX6_lawDoor_166 hl (k := 8) rfl (by rw [ez100831]; rfl) (by decide) rfl (fun ls hl => ?_)
            refine lv_goto (tgt := 42) hx hb dX6_lawDoor_169 (by decide) ?_
            exact ih42 z100777 z100778 z100779 z100783 z100784 z100831 _ _ _ (by omega) (by omega) (by omega) (by omega) (by omega) hT  (lv_sub hl [1, 2, 3, 4, 5, 6, 7, 8, 0] rfl)
          · have w100832 := cv_nlt (rfl : z100828.toInt = z100828.toInt) (rfl : z100786.toInt = z100786.toInt) c100829
            refine lv_iload_n hx hb dX6_lawDoor_62 rfl (lv_at hl 3 rfl) ?_
            refine lv_if_ne (tgt := 70) hx hb dX6_lawDoor_63 (by decide) (fun c100833 => ?_) (fun c100833 => ?_)
            · have w100834 := cv_ne (rfl : z100777.toInt = z100777.toInt) (by decide : (0 : Int32).toInt = 0) c100833
              refine lv_iload hx hb dX6_lawDoor_70 (lv_at hl 4 rfl) ?_
              refine lv_iload hx hb dX6_lawDoor_72 (lv_at hl 4 rfl) ?_
              refine lv_iload hx hb dX6_lawDoor_74 (lv_at hl 8 rfl) ?_
              refine lv_iload hx hb dX6_lawDoor_76 (lv_at hl 9 rfl) ?_
              refine t_cSi (n := 3) (As := [.int z100778, .int z100782, .int z100786]) (rest := [.int z100778]) X hT (kt296_X4_doorPlace l G tag L F hT.2.2.2 z100778 z100782 z100786 ) qw_784 qw_785 qw_409 qw_786 ⟨by decide +kernel, by decide +kernel, by decide +kernel⟩ ⟨Nat.le_of_ble_eq_true rfl, Nat.le_of_ble_eq_true rfl⟩ hl rfl rfl (Nat.le_of_ble_eq_true rfl) dX6_lawDoor_78 ⟨Nat.le_of_ble_eq_true rfl, Nat.le_of_ble_eq_true rfl⟩ (fun z100835 F9 H locs hT hz100835 => ?_)
              obtain ⟨fz100835, hz100835⟩ := hz100835
              rw [fz100835] at hT
              refine lv_iload hx hb dX6_lawDoor_81 (lv_at hl 5 rfl) ?_
              refine t_cSi (n := 3) (As := [.int z100778, .int z100835, .int z100779]) (rest := []) X hT (kt299_X4_between l G tag L F hT.2.2.2 z100778 z100835 z100779 ) qw_925 qw_926 qw_409 qw_927 ⟨by decide +kernel, by decide +kernel, by decide +kernel⟩ ⟨Nat.le_of_ble_eq_true rfl, Nat.le_of_ble_eq_true rfl⟩ hl rfl rfl (Nat.le_of_ble_eq_true rfl) dX6_lawDoor_83 ⟨Nat.le_of_ble_eq_true rfl, Nat.le_of_ble_eq_true rfl⟩ (fun z100836 F9 H locs hT hz100836 => ?_)
              obtain ⟨fz100836, hz100836⟩ := hz100836
              rw [fz100836] at hT
              exact K86 z100836 _ _ _ (by omega) hT  (lv_sub hl [0, 1, 2, 3, 4, 5, 6, 7, 8, 9] rfl)
            · have w100837 := cv_eq (rfl : z100777.toInt = z100777.toInt) (by decide : (0 : Int32).toInt = 0) c100833
              refine lv_iconst (v := 0) hx hb dX6_lawDoor_66 (by decide) ?_
              refine lv_goto (tgt := 86) hx hb dX6_lawDoor_67 (by decide) ?_
              exact K86 0 _ _ _ (by omega) hT  (lv_sub hl [0, 1, 2, 3, 4, 5, 6, 7, 8, 9] rfl)
      refine lv_iload hx hb dX6_lawDoor_42 (lv_at hl 8 rfl) ?_
      refine lv_iconst (v := 4) hx hb dX6_lawDoor_44 (by decide) ?_
      refine lv_icmp_ge (tgt := 172) hx hb dX6_lawDoor_45 (by decide) (fun c100838 => ?_) (fun c100838 => ?_)
      · have w100839 := cv_le (by decide : (4 : Int32).toInt = 4) (rfl : z100782.toInt = z100782.toInt) c100838
        refine lv_iload hx hb dX6_lawDoor_172 (lv_at hl 6 rfl) ?_
        exact t_iret hQ X hT (⟨rfl, (by omega)⟩) (Nat.le_of_ble_eq_true rfl) (Nat.le_of_ble_eq_true rfl) dX6_lawDoor_174
      · have w100840 := cv_nle (by decide : (4 : Int32).toInt = 4) (rfl : z100782.toInt = z100782.toInt) c100838
        refine lv_iconst (v := 0) hx hb dX6_lawDoor_48 (by decide) ?_
        refine lv_istore (lv' := [(9, .int 0), (0, .ref p0), (1, .ref p1), (2, .int p2), (3, .int z100777), (4, .int z100778), (5, .int z100779), (6, .int z100780), (7, .int z100781), (8, .int z100782)]) hx hb dX6_lawDoor_49 hl (by decide) rfl (fun ls hl => ?_)
        have kk100841 : (0 : Int32).toInt = 0 := by decide
        exact K51 14 z100780 z100781 0 _ _ _ (by omega) (by omega) (by decide) (by omega) hT  (lv_sub hl [1, 2, 3, 4, 5, 6, 7, 8, 9, 0] rfl)
  have K30 : ∀ (z100842 : Int32) (z100843 : Int32) (z100844 : Int32) (H : Heap) (locs : List Loc) (ls : Array Slot), (0 ≤ z100842.toInt ∧ z100842.toInt ≤ 6) → (1 ≤ z100843.toInt ∧ z100843.toInt ≤ 7) → TH G ttC A s tag L F H locs → lv_has ls 12 [(0, .ref p0), (1, .ref p1), (2, .int p2), (3, .int z100842), (4, .int z100843)] → W p l e { frames := 3, cells := 0, slots := 0, locals := 77 } s m args below meth c H locs 0 0 Q (F0 m 30 ls [.int z100844]) := by
    intro z100842 z100843 z100844 H locs ls rz100842 rz100843 hT hl
    have rz100844 := rg_all z100844
    refine lv_istore (lv' := [(5, .int z100844), (0, .ref p0), (1, .ref p1), (2, .int p2), (3, .int z100842), (4, .int z100843)]) hx hb dX6_lawDoor_30 hl (by decide) rfl (fun ls hl => ?_)
    refine lv_bipush (v := (-2)) hx hb dX6_lawDoor_32 (by decide) ?_
    refine lv_istore (lv' := [(6, .int (-2)), (5, .int z100844), (0, .ref p0), (1, .ref p1), (2, .int p2), (3, .int z100842), (4, .int z100843)]) hx hb dX6_lawDoor_34 hl (by decide) rfl (fun ls hl => ?_)
    refine lv_iconst (v := 0) hx hb dX6_lawDoor_36 (by decide) ?_
    refine lv_istore (lv' := [(7, .int 0), (6, .int (-2)), (5, .int z100844), (0, .ref p0), (1, .ref p1), (2, .int p2), (3, .int z100842), (4, .int z100843)]) hx hb dX6_lawDoor_37 hl (by decide) rfl (fun ls hl => ?_)
    refine lv_iconst (v := 0) hx hb dX6_lawDoor_39 (by decide) ?_
    refine lv_istore (lv' := [(8, .int 0), (7, .int 0), (6, .int (-2)), (5, .int z100844), (0, .ref p0), (1, .ref p1), (2, .int p2), (3, .int z100842), (4, .int z100843)]) hx hb dX6_lawDoor_40 hl (by decide) rfl (fun ls hl => ?_)
    have kk100845 : ((-2) : Int32).toInt = (-2) := by decide
    have kk100846 : (0 : Int32).toInt = 0 := by decide
    have kk100847 : (0 : Int32).toInt = 0 := by decide
    exact K42 5 z100842 z100843 z100844 (-2) 0 0 _ _ _ (by omega) (by omega) (by omega) (by decide) (by decide) hT  (lv_sub hl [4, 5, 6, 7, 8, 3, 2, 1, 0] rfl)
  refine lv_aload_n hx hb dX6_lawDoor_0 rfl (lv_at hl 1 rfl) ?_
  refine t_get (C := RX7) (T := TX7) (N := 7) X hT m1 g1 rfl rfl 2 (by decide) qw_383 inlX7 rfl dX6_lawDoor_1 (fun v100848 hv100848 ov100848 => ?_)
  obtain ⟨b100849, rfl, mb100849, gb100849⟩ := okV_r ov100848
  have gb100849 : tag b100849 = 8 := tg_of gb100849
  refine lv_iload_n hx hb dX6_lawDoor_4 rfl (lv_at hl 2 rfl) ?_
  refine t_ild X hT mb100849 gb100849 rfl (by omega) dX6_lawDoor_5 (fun z100850 vz100850 rz100850 => ?_)
  have rz100850 : 0 ≤ z100850.toInt ∧ z100850.toInt ≤ 6 := rz100850
  refine lv_istore_n (lv' := [(3, .int z100850), (0, .ref p0), (1, .ref p1), (2, .int p2)]) hx hb dX6_lawDoor_6 rfl hl (by decide) rfl (fun ls hl => ?_)
  refine lv_iload_n hx hb dX6_lawDoor_7 rfl (lv_at hl 0 rfl) ?_
  refine lv_iconst (v := 1) hx hb dX6_lawDoor_8 (by decide) ?_
  refine lv_iadd hx hb dX6_lawDoor_9 ?_
  refine lv_topi (fun z100851 ez100851 => ?_)
  have hz100851 : z100851.toInt = z100850.toInt + 1 := ar_add ez100851 (rfl : z100850.toInt = z100850.toInt) (by decide : (1 : Int32).toInt = 1) (by omega) (by omega)
  have rz100851 : 1 ≤ z100851.toInt ∧ z100851.toInt ≤ 7 := by omega
  refine lv_istore (lv' := [(4, .int z100851), (3, .int z100850), (0, .ref p0), (1, .ref p1), (2, .int p2)]) hx hb dX6_lawDoor_10 hl (by decide) rfl (fun ls hl => ?_)
  refine lv_iload_n hx hb dX6_lawDoor_12 rfl (lv_at hl 1 rfl) ?_
  refine lv_if_ne (tgt := 20) hx hb dX6_lawDoor_13 (by decide) (fun c100852 => ?_) (fun c100852 => ?_)
  · have w100853 := cv_ne (rfl : z100850.toInt = z100850.toInt) (by decide : (0 : Int32).toInt = 0) c100852
    refine lv_iload_n hx hb dX6_lawDoor_20 rfl (lv_at hl 1 rfl) ?_
    refine lv_aload_n hx hb dX6_lawDoor_21 rfl (lv_at hl 3 rfl) ?_
    refine lv_iload_n hx hb dX6_lawDoor_22 rfl (lv_at hl 4 rfl) ?_
    refine lv_iload_n hx hb dX6_lawDoor_23 rfl (lv_at hl 1 rfl) ?_
    refine t_cVi (n := 2) (C := RX7) (T := TX7) (N := 7) (As := [.int p2, .int z100850]) (rest := [.int z100850]) X hT (kt318_X7_doorOf l G tag L F hT.2.2.2 p1 p2 z100850 m1 g1) m1 g1 rfl rfl qw_917 qw_918 qw_919 qw_22 qw_920 ⟨rfl, by decide +kernel, by decide +kernel, by decide +kernel⟩ ⟨Nat.le_of_ble_eq_true rfl, Nat.le_of_ble_eq_true rfl⟩ hl rfl rfl (Nat.le_of_ble_eq_true rfl) dX6_lawDoor_24 ⟨Nat.le_of_ble_eq_true rfl, Nat.le_of_ble_eq_true rfl⟩ (fun z100854 F9 H locs hT hz100854 => ?_)
    obtain ⟨fz100854, hz100854⟩ := hz100854
    rw [fz100854] at hT
    refine t_cSi (n := 2) (As := [.int z100850, .int z100854]) (rest := []) X hT (kt298_X4_inFront l G tag L F hT.2.2.2 z100850 z100854 ) qw_922 qw_923 qw_409 qw_924 ⟨by decide +kernel, by decide +kernel, by decide +kernel⟩ ⟨Nat.le_of_ble_eq_true rfl, Nat.le_of_ble_eq_true rfl⟩ hl rfl rfl (Nat.le_of_ble_eq_true rfl) dX6_lawDoor_27 ⟨Nat.le_of_ble_eq_true rfl, Nat.le_of_ble_eq_true rfl⟩ (fun z100855 F9 H locs hT hz100855 => ?_)
    obtain ⟨fz100855, hz100855⟩ := hz100855
    rw [fz100855] at hT
    exact K30 z100850 z100851 z100855 _ _ _ (by omega) (by omega) hT  (lv_sub hl [2, 3, 4, 1, 0] rfl)
  · have w100856 := cv_eq (rfl : z100850.toInt = z100850.toInt) (by decide : (0 : Int32).toInt = 0) c100852
    refine lv_iconst (v := 0) hx hb dX6_lawDoor_16 (by decide) ?_
    refine lv_goto (tgt := 30) hx hb dX6_lawDoor_17 (by decide) ?_
    exact K30 z100850 z100851 0 _ _ _ (by omega) (by omega) hT  (lv_sub hl [2, 3, 4, 1, 0] rfl)
