set_option maxHeartbeats 4000000 in
set_option maxRecDepth 100000 in
theorem kt143_X2_forget (l : Launch) (G : KG) (tag : Nat → Nat) (L : List Nat) (Fo : Nat → va_E) (ho : okT G ttC tag L Fo) (p0 : Nat) (m0 : p0 ∈ L) (g0 : tag p0 = 23) : TMv l yX2_forget cX2_forget 1 { frames := 0, cells := 0, slots := 0, locals := 0 } G ttC tag L Fo [.ref p0] (fun F1 => ((∀ b j : Nat, (tag b ≠ 23 ∨ j ≠ 3) → (tag b ≠ 23 ∨ j ≠ 4) → fld F1 b j = fld Fo b j) ∧ EF tag F1 Fo)) := by
  refine t_bodyv (y := yX2_forget) (cd := cX2_forget) (mL := 1) (rm := { frames := 0, cells := 0, slots := 0, locals := 0 }) (av := [.ref p0]) (by decide) (Nat.le_of_ble_eq_true rfl) ho ?_
  intro p e s m args below meth c ls A Q hQ X hT hl
  have hx := X.1.1
  have hb := X.1.2.1
  have hl : lv_has ls 1 [(0, .ref p0)] := hl
  obtain ⟨F, hFo⟩ : ∃ F : Nat → va_E, F = Fo := ⟨_, rfl⟩
  rw [← hFo] at hT
  have hfr : (∀ b j : Nat, (tag b ≠ 23 ∨ j ≠ 3) → (tag b ≠ 23 ∨ j ≠ 4) → fld F b j = fld Fo b j) ∧ EF tag F Fo := by
    rw [hFo]
    exact ⟨by intros; rfl, fun _ _ _ => rfl⟩
  refine lv_aload_n hx hb dX2_forget_0 rfl (lv_at hl 0 rfl) ?_
  refine lv_iconst (v := 0) hx hb dX2_forget_1 (by decide) ?_
  refine t_put (C := RX2) (T := TX2) (N := 5) (v := .int 0) X hT m0 g0 rfl tyX2 tyX2_ok nmX2 rfl 3 (by decide) qw_461 inlX2 rfl (by first | rfl | decide) (by first | rfl | decide) rfl (⟨_, rfl, (show 0 ≤ (0 : Int32).toInt from (by decide)), (show (0 : Int32).toInt ≤ 10 from (by decide))⟩) dX2_forget_2 (fun F H locs hT v53274 h1v53274 h2v53274 => ?_)
  have hfr : (∀ b j : Nat, (tag b ≠ 23 ∨ j ≠ 3) → (tag b ≠ 23 ∨ j ≠ 4) → fld F b j = fld Fo b j) ∧ EF tag F Fo := ⟨fun b j n23_3 n23_4 => (h1v53274 b j (fr_ne g0 n23_3)).trans (hfr.1 b j n23_3 n23_4), fun b j hb => (h2v53274 b j).trans (hfr.2 b j hb)⟩
  refine lv_aload_n hx hb dX2_forget_5 rfl (lv_at hl 0 rfl) ?_
  refine lv_iconst (v := 0) hx hb dX2_forget_6 (by decide) ?_
  refine t_put (C := RX2) (T := TX2) (N := 5) (v := .int 0) X hT m0 g0 rfl tyX2 tyX2_ok nmX2 rfl 4 (by decide) qw_462 inlX2 rfl (by first | rfl | decide) (by first | rfl | decide) rfl (⟨_, rfl, (show 0 ≤ (0 : Int32).toInt from (by decide)), (show (0 : Int32).toInt ≤ 3 from (by decide))⟩) dX2_forget_7 (fun F H locs hT v53275 h1v53275 h2v53275 => ?_)
  have v53274 := (h1v53275 _ _ (Or.inr (by decide))).trans v53274
  have hfr : (∀ b j : Nat, (tag b ≠ 23 ∨ j ≠ 3) → (tag b ≠ 23 ∨ j ≠ 4) → fld F b j = fld Fo b j) ∧ EF tag F Fo := ⟨fun b j n23_3 n23_4 => (h1v53275 b j (fr_ne g0 n23_4)).trans (hfr.1 b j n23_3 n23_4), fun b j hb => (h2v53275 b j).trans (hfr.2 b j hb)⟩
  exact t_vret hQ X hT hfr (Nat.le_of_ble_eq_true rfl) (Nat.le_of_ble_eq_true rfl) dX2_forget_10
set_option maxHeartbeats 4000000 in
set_option maxRecDepth 100000 in
theorem kt144_X3_isLineAgain (l : Launch) (G : KG) (tag : Nat → Nat) (L : List Nat) (F : Nat → va_E) (ho : okT G ttC tag L F) (p0 : Nat) (p1 : Int32) (m0 : p0 ∈ L) (g0 : tag p0 = 25) : TMi l yX3_isLineAgain cX3_isLineAgain 2 (some .boolean) { frames := 0, cells := 0, slots := 0, locals := 0 } G ttC tag L F [.ref p0, .int p1] (fun r F1 => F1 = F ∧ (0 ≤ r.toInt ∧ r.toInt ≤ 1)) := by
  refine t_bodyi (y := yX3_isLineAgain) (cd := cX3_isLineAgain) (mL := 2) (rt := (some .boolean)) (rm := { frames := 0, cells := 0, slots := 0, locals := 0 }) (av := [.ref p0, .int p1]) (by decide) (Nat.le_of_ble_eq_true rfl) ho ?_
  intro p e s m args below meth c ls A Q hQ X hT hl
  have hx := X.1.1
  have hb := X.1.2.1
  have hl : lv_has ls 2 [(0, .ref p0), (1, .int p1)] := hl
  have rp1 := rg_all p1
  have K23 : ∀  (H : Heap) (locs : List Loc) (ls : Array Slot), (0 ≤ p1.toInt ∧ p1.toInt ≤ 1) → TH G ttC A s tag L F H locs → lv_has ls 2 [(0, .ref p0), (1, .int p1)] → W p l e { frames := 0, cells := 0, slots := 0, locals := 0 } s m args below meth c H locs 0 0 Q (F0 m 23 ls []) := by
    intro H locs ls r9s53484 hT hl
    refine lv_iconst (v := 1) hx hb dX3_isLineAgain_23 (by decide) ?_
    refine lv_goto (tgt := 28) hx hb dX3_isLineAgain_24 (by decide) ?_
    exact t_zret hQ X hT (by decide) (⟨rfl, (by decide)⟩) (Nat.le_of_ble_eq_true rfl) (Nat.le_of_ble_eq_true rfl) dX3_isLineAgain_28
  have K11 : ∀  (H : Heap) (locs : List Loc) (ls : Array Slot), TH G ttC A s tag L F H locs → lv_has ls 2 [(0, .ref p0), (1, .int p1)] → W p l e { frames := 0, cells := 0, slots := 0, locals := 0 } s m args below meth c H locs 0 0 Q (F0 m 11 ls []) := by
    intro H locs ls hT hl
    refine lv_iload_n hx hb dX3_isLineAgain_11 rfl (lv_at hl 1 rfl) ?_
    refine lv_iconst (v := 1) hx hb dX3_isLineAgain_12 (by decide) ?_
    refine lv_icmp_ne (tgt := 27) hx hb dX3_isLineAgain_13 (by decide) (fun c53485 => ?_) (fun c53485 => ?_)
    · have w53486 := cv_ne (rfl : p1.toInt = p1.toInt) (by decide : (1 : Int32).toInt = 1) c53485
      refine lv_iconst (v := 0) hx hb dX3_isLineAgain_27 (by decide) ?_
      exact t_zret hQ X hT (by decide) (⟨rfl, (by decide)⟩) (Nat.le_of_ble_eq_true rfl) (Nat.le_of_ble_eq_true rfl) dX3_isLineAgain_28
    · have w53487 := cv_eq (rfl : p1.toInt = p1.toInt) (by decide : (1 : Int32).toInt = 1) c53485
      refine lv_aload_n hx hb dX3_isLineAgain_16 rfl (lv_at hl 0 rfl) ?_
      refine t_get (C := RX3) (T := TX3) (N := 13) X hT m0 g0 rfl rfl 6 (by decide) qw_166 inlX3 rfl dX3_isLineAgain_17 (fun v53488 hv53488 ov53488 => ?_)
      obtain ⟨z53489, rfl, rz53489⟩ := okV_i ov53488
      refine lv_if_eq (tgt := 27) hx hb dX3_isLineAgain_20 (by decide) (fun c53490 => ?_) (fun c53490 => ?_)
      · have w53491 := cv_eq (rfl : z53489.toInt = z53489.toInt) (by decide : (0 : Int32).toInt = 0) c53490
        refine lv_iconst (v := 0) hx hb dX3_isLineAgain_27 (by decide) ?_
        exact t_zret hQ X hT (by decide) (⟨rfl, (by decide)⟩) (Nat.le_of_ble_eq_true rfl) (Nat.le_of_ble_eq_true rfl) dX3_isLineAgain_28
      · have w53492 := cv_ne (rfl : z53489.toInt = z53489.toInt) (by decide : (0 : Int32).toInt = 0) c53490
        exact K23  _ _ _ (by omega) hT  (lv_sub hl [0, 1] rfl)
  refine lv_iload_n hx hb dX3_isLineAgain_0 rfl (lv_at hl 1 rfl) ?_
  refine lv_if_ne (tgt := 11) hx hb dX3_isLineAgain_1 (by decide) (fun c53493 => ?_) (fun c53493 => ?_)
  · have w53494 := cv_ne (rfl : p1.toInt = p1.toInt) (by decide : (0 : Int32).toInt = 0) c53493
    exact K11  _ _ _  hT  (lv_sub hl [0, 1] rfl)
  · have w53495 := cv_eq (rfl : p1.toInt = p1.toInt) (by decide : (0 : Int32).toInt = 0) c53493
    refine lv_aload_n hx hb dX3_isLineAgain_4 rfl (lv_at hl 0 rfl) ?_
    refine t_get (C := RX3) (T := TX3) (N := 13) X hT m0 g0 rfl rfl 5 (by decide) qw_165 inlX3 rfl dX3_isLineAgain_5 (fun v53496 hv53496 ov53496 => ?_)
    obtain ⟨z53497, rfl, rz53497⟩ := okV_i ov53496
    refine lv_if_ne (tgt := 23) hx hb dX3_isLineAgain_8 (by decide) (fun c53498 => ?_) (fun c53498 => ?_)
    · have w53499 := cv_ne (rfl : z53497.toInt = z53497.toInt) (by decide : (0 : Int32).toInt = 0) c53498
      exact K23  _ _ _ (by omega) hT  (lv_sub hl [0, 1] rfl)
    · have w53500 := cv_eq (rfl : z53497.toInt = z53497.toInt) (by decide : (0 : Int32).toInt = 0) c53498
      exact K11  _ _ _  hT  (lv_sub hl [0, 1] rfl)
set_option maxHeartbeats 4000000 in
set_option maxRecDepth 100000 in
theorem kt145_X3_isLineTooMany (l : Launch) (G : KG) (tag : Nat → Nat) (L : List Nat) (F : Nat → va_E) (ho : okT G ttC tag L F) (p0 : Nat) (p1 : Int32) (x0 : Nat) (x1 : Nat) (x2 : Nat) (x3 : Nat) (m0 : p0 ∈ L) (g0 : tag p0 = 25) (mx0 : x0 ∈ L) (gx0 : tag x0 = 24) (pf0 : fld F p0 0 = .ref x0) (mx1 : x1 ∈ L) (gx1 : tag x1 = 18) (pf1 : fld F p0 1 = .ref x1) (mx2 : x2 ∈ L) (gx2 : tag x2 = 19) (pf2 : fld F p0 2 = .ref x2) (mx3 : x3 ∈ L) (gx3 : tag x3 = 1) (pf3 : fld F x0 0 = .ref x3) : TMi l yX3_isLineTooMany cX3_isLineTooMany 2 (some .boolean) { frames := 0, cells := 0, slots := 0, locals := 0 } G ttC tag L F [.ref p0, .int p1] (fun r F1 => F1 = F ∧ (0 ≤ r.toInt ∧ r.toInt ≤ 1)) := by
  refine t_bodyi (y := yX3_isLineTooMany) (cd := cX3_isLineTooMany) (mL := 2) (rt := (some .boolean)) (rm := { frames := 0, cells := 0, slots := 0, locals := 0 }) (av := [.ref p0, .int p1]) (by decide) (Nat.le_of_ble_eq_true rfl) ho ?_
  intro p e s m args below meth c ls A Q hQ X hT hl
  have hx := X.1.1
  have hb := X.1.2.1
  have hl : lv_has ls 2 [(0, .ref p0), (1, .int p1)] := hl
  have rp1 := rg_all p1
  refine lv_iload_n hx hb dX3_isLineTooMany_0 rfl (lv_at hl 1 rfl) ?_
  by_cases c54109 : p1 = 2
  · have w54110 := cv_eq (rfl : p1.toInt = p1.toInt) (by decide : (2 : Int32).toInt = 2) c54109
    refine lv_tableIn (off := 43) (tgt := 44) hx hb dX3_isLineTooMany_1 (by rw [c54109]; decide) (by rw [c54109]; decide) (by rw [c54109]; decide) (by decide) ?_
    refine lv_aload_n hx hb dX3_isLineTooMany_44 rfl (lv_at hl 0 rfl) ?_
    refine t_get (C := RX3) (T := TX3) (N := 13) X hT m0 g0 rfl rfl 7 (by decide) qw_167 inlX3 rfl dX3_isLineTooMany_45 (fun v54111 hv54111 ov54111 => ?_)
    obtain ⟨z54112, rfl, rz54112⟩ := okV_i ov54111
    refine lv_bipush (v := 10) hx hb dX3_isLineTooMany_48 (by decide) ?_
    refine lv_icmp_lt (tgt := 57) hx hb dX3_isLineTooMany_50 (by decide) (fun c54113 => ?_) (fun c54113 => ?_)
    · have w54114 := cv_lt (rfl : z54112.toInt = z54112.toInt) (by decide : (10 : Int32).toInt = 10) c54113
      refine lv_iconst (v := 0) hx hb dX3_isLineTooMany_57 (by decide) ?_
      exact t_zret hQ X hT (by decide) (⟨rfl, (by decide)⟩) (Nat.le_of_ble_eq_true rfl) (Nat.le_of_ble_eq_true rfl) dX3_isLineTooMany_58
    · have w54115 := cv_nlt (rfl : z54112.toInt = z54112.toInt) (by decide : (10 : Int32).toInt = 10) c54113
      refine lv_iconst (v := 1) hx hb dX3_isLineTooMany_53 (by decide) ?_
      refine lv_goto (tgt := 58) hx hb dX3_isLineTooMany_54 (by decide) ?_
      exact t_zret hQ X hT (by decide) (⟨rfl, (by decide)⟩) (Nat.le_of_ble_eq_true rfl) (Nat.le_of_ble_eq_true rfl) dX3_isLineTooMany_58
  have w54116 := cv_ne (rfl : p1.toInt = p1.toInt) (by decide : (2 : Int32).toInt = 2) c54109
  by_cases c54117 : p1 = 3
  · have w54118 := cv_eq (rfl : p1.toInt = p1.toInt) (by decide : (3 : Int32).toInt = 3) c54117
    refine lv_tableIn (off := 58) (tgt := 59) hx hb dX3_isLineTooMany_1 (by rw [c54117]; decide) (by rw [c54117]; decide) (by rw [c54117]; decide) (by decide) ?_
    refine lv_aload_n hx hb dX3_isLineTooMany_59 rfl (lv_at hl 0 rfl) ?_
    refine t_get (C := RX3) (T := TX3) (N := 13) X hT m0 g0 rfl rfl 1 (by decide) qw_161 inlX3 rfl dX3_isLineTooMany_60 (fun v54119 hv54119 ov54119 => ?_)
    obtain rfl : v54119 = .ref x1 := hv54119.symm.trans pf1
    refine t_get (C := RX1) (T := TX1) (N := 20) X hT mx1 gx1 rfl rfl 8 (by decide) qw_171 inlX1 rfl dX3_isLineTooMany_63 (fun v54120 hv54120 ov54120 => ?_)
    obtain ⟨z54121, rfl, rz54121⟩ := okV_i ov54120
    refine lv_iconst (v := 4) hx hb dX3_isLineTooMany_66 (by decide) ?_
    refine lv_icmp_lt (tgt := 74) hx hb dX3_isLineTooMany_67 (by decide) (fun c54122 => ?_) (fun c54122 => ?_)
    · have w54123 := cv_lt (rfl : z54121.toInt = z54121.toInt) (by decide : (4 : Int32).toInt = 4) c54122
      refine lv_iconst (v := 0) hx hb dX3_isLineTooMany_74 (by decide) ?_
      exact t_zret hQ X hT (by decide) (⟨rfl, (by decide)⟩) (Nat.le_of_ble_eq_true rfl) (Nat.le_of_ble_eq_true rfl) dX3_isLineTooMany_75
    · have w54124 := cv_nlt (rfl : z54121.toInt = z54121.toInt) (by decide : (4 : Int32).toInt = 4) c54122
      refine lv_iconst (v := 1) hx hb dX3_isLineTooMany_70 (by decide) ?_
      refine lv_goto (tgt := 75) hx hb dX3_isLineTooMany_71 (by decide) ?_
      exact t_zret hQ X hT (by decide) (⟨rfl, (by decide)⟩) (Nat.le_of_ble_eq_true rfl) (Nat.le_of_ble_eq_true rfl) dX3_isLineTooMany_75
  have w54125 := cv_ne (rfl : p1.toInt = p1.toInt) (by decide : (3 : Int32).toInt = 3) c54117
  by_cases c54126 : p1 = 4
  · have w54127 := cv_eq (rfl : p1.toInt = p1.toInt) (by decide : (4 : Int32).toInt = 4) c54126
    refine lv_tableIn (off := 75) (tgt := 76) hx hb dX3_isLineTooMany_1 (by rw [c54126]; decide) (by rw [c54126]; decide) (by rw [c54126]; decide) (by decide) ?_
    refine lv_aload_n hx hb dX3_isLineTooMany_76 rfl (lv_at hl 0 rfl) ?_
    refine t_get (C := RX3) (T := TX3) (N := 13) X hT m0 g0 rfl rfl 1 (by decide) qw_161 inlX3 rfl dX3_isLineTooMany_77 (fun v54128 hv54128 ov54128 => ?_)
    obtain rfl : v54128 = .ref x1 := hv54128.symm.trans pf1
    refine t_get (C := RX1) (T := TX1) (N := 20) X hT mx1 gx1 rfl rfl 10 (by decide) qw_172 inlX1 rfl dX3_isLineTooMany_80 (fun v54129 hv54129 ov54129 => ?_)
    obtain ⟨z54130, rfl, rz54130⟩ := okV_i ov54129
    refine lv_iconst (v := 4) hx hb dX3_isLineTooMany_83 (by decide) ?_
    refine lv_icmp_lt (tgt := 91) hx hb dX3_isLineTooMany_84 (by decide) (fun c54131 => ?_) (fun c54131 => ?_)
    · have w54132 := cv_lt (rfl : z54130.toInt = z54130.toInt) (by decide : (4 : Int32).toInt = 4) c54131
      refine lv_iconst (v := 0) hx hb dX3_isLineTooMany_91 (by decide) ?_
      exact t_zret hQ X hT (by decide) (⟨rfl, (by decide)⟩) (Nat.le_of_ble_eq_true rfl) (Nat.le_of_ble_eq_true rfl) dX3_isLineTooMany_92
    · have w54133 := cv_nlt (rfl : z54130.toInt = z54130.toInt) (by decide : (4 : Int32).toInt = 4) c54131
      refine lv_iconst (v := 1) hx hb dX3_isLineTooMany_87 (by decide) ?_
      refine lv_goto (tgt := 92) hx hb dX3_isLineTooMany_88 (by decide) ?_
      exact t_zret hQ X hT (by decide) (⟨rfl, (by decide)⟩) (Nat.le_of_ble_eq_true rfl) (Nat.le_of_ble_eq_true rfl) dX3_isLineTooMany_92
  have w54134 := cv_ne (rfl : p1.toInt = p1.toInt) (by decide : (4 : Int32).toInt = 4) c54126
  by_cases c54135 : p1 = 5
  · have w54136 := cv_eq (rfl : p1.toInt = p1.toInt) (by decide : (5 : Int32).toInt = 5) c54135
    refine lv_tableIn (off := 143) (tgt := 144) hx hb dX3_isLineTooMany_1 (by rw [c54135]; decide) (by rw [c54135]; decide) (by rw [c54135]; decide) (by decide) ?_
    refine lv_iconst (v := 0) hx hb dX3_isLineTooMany_144 (by decide) ?_
    exact t_zret hQ X hT (by decide) (⟨rfl, (by decide)⟩) (Nat.le_of_ble_eq_true rfl) (Nat.le_of_ble_eq_true rfl) dX3_isLineTooMany_145
  have w54137 := cv_ne (rfl : p1.toInt = p1.toInt) (by decide : (5 : Int32).toInt = 5) c54135
  by_cases c54138 : p1 = 6
  · have w54139 := cv_eq (rfl : p1.toInt = p1.toInt) (by decide : (6 : Int32).toInt = 6) c54138
    refine lv_tableIn (off := 92) (tgt := 93) hx hb dX3_isLineTooMany_1 (by rw [c54138]; decide) (by rw [c54138]; decide) (by rw [c54138]; decide) (by decide) ?_
    refine lv_aload_n hx hb dX3_isLineTooMany_93 rfl (lv_at hl 0 rfl) ?_
    refine t_get (C := RX3) (T := TX3) (N := 13) X hT m0 g0 rfl rfl 1 (by decide) qw_161 inlX3 rfl dX3_isLineTooMany_94 (fun v54140 hv54140 ov54140 => ?_)
    obtain rfl : v54140 = .ref x1 := hv54140.symm.trans pf1
    refine t_get (C := RX1) (T := TX1) (N := 20) X hT mx1 gx1 rfl rfl 14 (by decide) qw_303 inlX1 rfl dX3_isLineTooMany_97 (fun v54141 hv54141 ov54141 => ?_)
    obtain ⟨z54142, rfl, rz54142⟩ := okV_i ov54141
    refine lv_bipush (v := 6) hx hb dX3_isLineTooMany_100 (by decide) ?_
    refine lv_icmp_lt (tgt := 109) hx hb dX3_isLineTooMany_102 (by decide) (fun c54143 => ?_) (fun c54143 => ?_)
    · have w54144 := cv_lt (rfl : z54142.toInt = z54142.toInt) (by decide : (6 : Int32).toInt = 6) c54143
      refine lv_iconst (v := 0) hx hb dX3_isLineTooMany_109 (by decide) ?_
      exact t_zret hQ X hT (by decide) (⟨rfl, (by decide)⟩) (Nat.le_of_ble_eq_true rfl) (Nat.le_of_ble_eq_true rfl) dX3_isLineTooMany_110
    · have w54145 := cv_nlt (rfl : z54142.toInt = z54142.toInt) (by decide : (6 : Int32).toInt = 6) c54143
      refine lv_iconst (v := 1) hx hb dX3_isLineTooMany_105 (by decide) ?_
      refine lv_goto (tgt := 110) hx hb dX3_isLineTooMany_106 (by decide) ?_
      exact t_zret hQ X hT (by decide) (⟨rfl, (by decide)⟩) (Nat.le_of_ble_eq_true rfl) (Nat.le_of_ble_eq_true rfl) dX3_isLineTooMany_110
  have w54146 := cv_ne (rfl : p1.toInt = p1.toInt) (by decide : (6 : Int32).toInt = 6) c54138
  by_cases c54147 : p1 = 7
  · have w54148 := cv_eq (rfl : p1.toInt = p1.toInt) (by decide : (7 : Int32).toInt = 7) c54147
    refine lv_tableIn (off := 110) (tgt := 111) hx hb dX3_isLineTooMany_1 (by rw [c54147]; decide) (by rw [c54147]; decide) (by rw [c54147]; decide) (by decide) ?_
    refine lv_aload_n hx hb dX3_isLineTooMany_111 rfl (lv_at hl 0 rfl) ?_
    refine t_get (C := RX3) (T := TX3) (N := 13) X hT m0 g0 rfl rfl 1 (by decide) qw_161 inlX3 rfl dX3_isLineTooMany_112 (fun v54149 hv54149 ov54149 => ?_)
    obtain rfl : v54149 = .ref x1 := hv54149.symm.trans pf1
    refine t_get (C := RX1) (T := TX1) (N := 20) X hT mx1 gx1 rfl rfl 16 (by decide) qw_304 inlX1 rfl dX3_isLineTooMany_115 (fun v54150 hv54150 ov54150 => ?_)
    obtain ⟨z54151, rfl, rz54151⟩ := okV_i ov54150
    refine lv_bipush (v := 6) hx hb dX3_isLineTooMany_118 (by decide) ?_
    refine lv_icmp_lt (tgt := 127) hx hb dX3_isLineTooMany_120 (by decide) (fun c54152 => ?_) (fun c54152 => ?_)
    · have w54153 := cv_lt (rfl : z54151.toInt = z54151.toInt) (by decide : (6 : Int32).toInt = 6) c54152
      refine lv_iconst (v := 0) hx hb dX3_isLineTooMany_127 (by decide) ?_
      exact t_zret hQ X hT (by decide) (⟨rfl, (by decide)⟩) (Nat.le_of_ble_eq_true rfl) (Nat.le_of_ble_eq_true rfl) dX3_isLineTooMany_128
    · have w54154 := cv_nlt (rfl : z54151.toInt = z54151.toInt) (by decide : (6 : Int32).toInt = 6) c54152
      refine lv_iconst (v := 1) hx hb dX3_isLineTooMany_123 (by decide) ?_
      refine lv_goto (tgt := 128) hx hb dX3_isLineTooMany_124 (by decide) ?_
      exact t_zret hQ X hT (by decide) (⟨rfl, (by decide)⟩) (Nat.le_of_ble_eq_true rfl) (Nat.le_of_ble_eq_true rfl) dX3_isLineTooMany_128
  have w54155 := cv_ne (rfl : p1.toInt = p1.toInt) (by decide : (7 : Int32).toInt = 7) c54147
  by_cases c54156 : p1 = 8
  · have w54157 := cv_eq (rfl : p1.toInt = p1.toInt) (by decide : (8 : Int32).toInt = 8) c54156
    refine lv_tableIn (off := 128) (tgt := 129) hx hb dX3_isLineTooMany_1 (by rw [c54156]; decide) (by rw [c54156]; decide) (by rw [c54156]; decide) (by decide) ?_
    refine lv_aload_n hx hb dX3_isLineTooMany_129 rfl (lv_at hl 0 rfl) ?_
    refine t_get (C := RX3) (T := TX3) (N := 13) X hT m0 g0 rfl rfl 8 (by decide) qw_168 inlX3 rfl dX3_isLineTooMany_130 (fun v54158 hv54158 ov54158 => ?_)
    obtain ⟨z54159, rfl, rz54159⟩ := okV_i ov54158
    refine lv_bipush (v := 8) hx hb dX3_isLineTooMany_133 (by decide) ?_
    refine lv_icmp_lt (tgt := 142) hx hb dX3_isLineTooMany_135 (by decide) (fun c54160 => ?_) (fun c54160 => ?_)
    · have w54161 := cv_lt (rfl : z54159.toInt = z54159.toInt) (by decide : (8 : Int32).toInt = 8) c54160
      refine lv_iconst (v := 0) hx hb dX3_isLineTooMany_142 (by decide) ?_
      exact t_zret hQ X hT (by decide) (⟨rfl, (by decide)⟩) (Nat.le_of_ble_eq_true rfl) (Nat.le_of_ble_eq_true rfl) dX3_isLineTooMany_143
    · have w54162 := cv_nlt (rfl : z54159.toInt = z54159.toInt) (by decide : (8 : Int32).toInt = 8) c54160
      refine lv_iconst (v := 1) hx hb dX3_isLineTooMany_138 (by decide) ?_
      refine lv_goto (tgt := 143) hx hb dX3_isLineTooMany_139 (by decide) ?_
      exact t_zret hQ X hT (by decide) (⟨rfl, (by decide)⟩) (Nat.le_of_ble_eq_true rfl) (Nat.le_of_ble_eq_true rfl) dX3_isLineTooMany_143
  have w54163 := cv_ne (rfl : p1.toInt = p1.toInt) (by decide : (8 : Int32).toInt = 8) c54156
  refine lv_tableOut (tgt := 144) hx hb dX3_isLineTooMany_1 (by omega) (by decide) ?_
  refine lv_iconst (v := 0) hx hb dX3_isLineTooMany_144 (by decide) ?_
  exact t_zret hQ X hT (by decide) (⟨rfl, (by decide)⟩) (Nat.le_of_ble_eq_true rfl) (Nat.le_of_ble_eq_true rfl) dX3_isLineTooMany_145
set_option maxHeartbeats 4000000 in
set_option maxRecDepth 100000 in
theorem kt146_X3_fail (l : Launch) (G : KG) (tag : Nat → Nat) (L : List Nat) (Fo : Nat → va_E) (ho : okT G ttC tag L Fo) (p0 : Nat) (p1 : Int32) (p2 : Int32) (m0 : p0 ∈ L) (g0 : tag p0 = 25) : TMv l yX3_fail cX3_fail 3 { frames := 0, cells := 0, slots := 0, locals := 0 } G ttC tag L Fo [.ref p0, .int p1, .int p2] (fun F1 => ((∀ b j : Nat, (tag b ≠ 25 ∨ j ≠ 3) → (tag b ≠ 25 ∨ j ≠ 4) → fld F1 b j = fld Fo b j) ∧ EF tag F1 Fo)) := by
  refine t_bodyv (y := yX3_fail) (cd := cX3_fail) (mL := 3) (rm := { frames := 0, cells := 0, slots := 0, locals := 0 }) (av := [.ref p0, .int p1, .int p2]) (by decide) (Nat.le_of_ble_eq_true rfl) ho ?_
  intro p e s m args below meth c ls A Q hQ X hT hl
  have hx := X.1.1
  have hb := X.1.2.1
  have hl : lv_has ls 3 [(0, .ref p0), (1, .int p1), (2, .int p2)] := hl
  have rp1 := rg_all p1
  have rp2 := rg_all p2
  obtain ⟨F, hFo⟩ : ∃ F : Nat → va_E, F = Fo := ⟨_, rfl⟩
  rw [← hFo] at hT
  have hfr : (∀ b j : Nat, (tag b ≠ 25 ∨ j ≠ 3) → (tag b ≠ 25 ∨ j ≠ 4) → fld F b j = fld Fo b j) ∧ EF tag F Fo := by
    rw [hFo]
    exact ⟨by intros; rfl, fun _ _ _ => rfl⟩
  refine lv_aload_n hx hb dX3_fail_0 rfl (lv_at hl 0 rfl) ?_
  refine t_get (C := RX3) (T := TX3) (N := 13) X hT m0 g0 rfl rfl 3 (by decide) qw_163 inlX3 rfl dX3_fail_1 (fun v54256 hv54256 ov54256 => ?_)
  obtain ⟨z54257, rfl, rz54257⟩ := okV_i ov54256
  refine lv_if_ne (tgt := 17) hx hb dX3_fail_4 (by decide) (fun c54258 => ?_) (fun c54258 => ?_)
  · have w54259 := cv_ne (rfl : z54257.toInt = z54257.toInt) (by decide : (0 : Int32).toInt = 0) c54258
    exact t_vret hQ X hT hfr (Nat.le_of_ble_eq_true rfl) (Nat.le_of_ble_eq_true rfl) dX3_fail_17
  · have w54260 := cv_eq (rfl : z54257.toInt = z54257.toInt) (by decide : (0 : Int32).toInt = 0) c54258
    refine lv_aload_n hx hb dX3_fail_7 rfl (lv_at hl 0 rfl) ?_
    refine lv_iload_n hx hb dX3_fail_8 rfl (lv_at hl 1 rfl) ?_
    refine t_put (C := RX3) (T := TX3) (N := 13) (v := .int p1) X hT m0 g0 rfl tyX3 tyX3_ok nmX3 rfl 3 (by decide) qw_163 inlX3 rfl (by first | rfl | decide) (by first | rfl | decide) rfl (⟨_, rfl, (show (-2147483648) ≤ (p1 : Int32).toInt from (by omega)), (show (p1 : Int32).toInt ≤ 2147483647 from (by omega))⟩) dX3_fail_9 (fun F H locs hT v54261 h1v54261 h2v54261 => ?_)
    have hfr : (∀ b j : Nat, (tag b ≠ 25 ∨ j ≠ 3) → (tag b ≠ 25 ∨ j ≠ 4) → fld F b j = fld Fo b j) ∧ EF tag F Fo := ⟨fun b j n25_3 n25_4 => (h1v54261 b j (fr_ne g0 n25_3)).trans (hfr.1 b j n25_3 n25_4), fun b j hb => (h2v54261 b j).trans (hfr.2 b j hb)⟩
    refine lv_aload_n hx hb dX3_fail_12 rfl (lv_at hl 0 rfl) ?_
    refine lv_iload_n hx hb dX3_fail_13 rfl (lv_at hl 2 rfl) ?_
    refine t_put (C := RX3) (T := TX3) (N := 13) (v := .int p2) X hT m0 g0 rfl tyX3 tyX3_ok nmX3 rfl 4 (by decide) qw_164 inlX3 rfl (by first | rfl | decide) (by first | rfl | decide) rfl (⟨_, rfl, (show (-2147483648) ≤ (p2 : Int32).toInt from (by omega)), (show (p2 : Int32).toInt ≤ 2147483647 from (by omega))⟩) dX3_fail_14 (fun F H locs hT v54262 h1v54262 h2v54262 => ?_)
    have v54261 := (h1v54262 _ _ (Or.inr (by decide))).trans v54261
    have hfr : (∀ b j : Nat, (tag b ≠ 25 ∨ j ≠ 3) → (tag b ≠ 25 ∨ j ≠ 4) → fld F b j = fld Fo b j) ∧ EF tag F Fo := ⟨fun b j n25_3 n25_4 => (h1v54262 b j (fr_ne g0 n25_4)).trans (hfr.1 b j n25_3 n25_4), fun b j hb => (h2v54262 b j).trans (hfr.2 b j hb)⟩
    exact t_vret hQ X hT hfr (Nat.le_of_ble_eq_true rfl) (Nat.le_of_ble_eq_true rfl) dX3_fail_17
set_option maxHeartbeats 4000000 in
set_option maxRecDepth 100000 in
theorem kt147_X3_checkLine (l : Launch) (G : KG) (tag : Nat → Nat) (L : List Nat) (Fo : Nat → va_E) (ho : okT G ttC tag L Fo) (p0 : Nat) (p1 : Int32) (x0 : Nat) (x1 : Nat) (x2 : Nat) (x3 : Nat) (m0 : p0 ∈ L) (g0 : tag p0 = 25) (mx0 : x0 ∈ L) (gx0 : tag x0 = 24) (pf0 : fld Fo p0 0 = .ref x0) (mx1 : x1 ∈ L) (gx1 : tag x1 = 18) (pf1 : fld Fo p0 1 = .ref x1) (mx2 : x2 ∈ L) (gx2 : tag x2 = 19) (pf2 : fld Fo p0 2 = .ref x2) (mx3 : x3 ∈ L) (gx3 : tag x3 = 1) (pf3 : fld Fo x0 0 = .ref x3) : TMv l yX3_checkLine cX3_checkLine 2 { frames := 1, cells := 0, slots := 0, locals := 22 } G ttC tag L Fo [.ref p0, .int p1] (fun F1 => ((∀ b j : Nat, (tag b ≠ 25 ∨ j ≠ 3) → (tag b ≠ 25 ∨ j ≠ 4) → fld F1 b j = fld Fo b j) ∧ EF tag F1 Fo)) := by
  refine t_bodyv (y := yX3_checkLine) (cd := cX3_checkLine) (mL := 2) (rm := { frames := 1, cells := 0, slots := 0, locals := 22 }) (av := [.ref p0, .int p1]) (by decide) (Nat.le_of_ble_eq_true rfl) ho ?_
  intro p e s m args below meth c ls A Q hQ X hT hl
  have hx := X.1.1
  have hb := X.1.2.1
  have hl : lv_has ls 2 [(0, .ref p0), (1, .int p1)] := hl
  have rp1 := rg_all p1
  obtain ⟨F, hFo⟩ : ∃ F : Nat → va_E, F = Fo := ⟨_, rfl⟩
  rw [← hFo] at hT pf0 pf1 pf2 pf3
  have hfr : (∀ b j : Nat, (tag b ≠ 25 ∨ j ≠ 3) → (tag b ≠ 25 ∨ j ≠ 4) → fld F b j = fld Fo b j) ∧ EF tag F Fo := by
    rw [hFo]
    exact ⟨by intros; rfl, fun _ _ _ => rfl⟩
  have K72 : ∀  (F : Nat → va_E) (H : Heap) (locs : List Loc) (ls : Array Slot), TH G ttC A s tag L F H locs → ((∀ b j : Nat, (tag b ≠ 25 ∨ j ≠ 3) → (tag b ≠ 25 ∨ j ≠ 4) → fld F b j = fld Fo b j) ∧ EF tag F Fo) → fld F p0 0 = .ref x0 → fld F p0 1 = .ref x1 → fld F p0 2 = .ref x2 → fld F x0 0 = .ref x3 → lv_has ls 2 [(0, .ref p0), (1, .int p1)] → W p l e { frames := 1, cells := 0, slots := 0, locals := 22 } s m args below meth c H locs 0 0 Q (F0 m 72 ls []) := by
    intro F H locs ls hT hfr pf0 pf1 pf2 pf3 hl
    refine lv_aload_n hx hb dX3_checkLine_72 rfl (lv_at hl 0 rfl) ?_
    refine lv_bipush (v := 6) hx hb dX3_checkLine_73 (by decide) ?_
    refine lv_aload_n hx hb dX3_checkLine_75 rfl (lv_at hl 0 rfl) ?_
    refine t_get (C := RX3) (T := TX3) (N := 13) X hT m0 g0 rfl rfl 0 (by decide) qw_73 inlX3 rfl dX3_checkLine_76 (fun v54785 hv54785 ov54785 => ?_)
    obtain rfl : v54785 = .ref x0 := hv54785.symm.trans pf0
    refine t_get (C := RX8) (T := TX8) (N := 8) X hT mx0 gx0 rfl rfl 4 (by decide) qw_227 inlX8 rfl dX3_checkLine_79 (fun v54786 hv54786 ov54786 => ?_)
    obtain ⟨z54787, rfl, rz54787⟩ := okV_i ov54786
    refine t_cVv (n := 2) (C := RX3) (T := TX3) (N := 13) (As := [.int 6, .int z54787]) (rest := []) X hT (kt146_X3_fail l G tag L F hT.2.2.2 p0 6 z54787 m0 g0) m0 g0 rfl rfl qw_287 qw_288 qw_289 qw_28 qw_290 ⟨rfl, by decide +kernel, by decide +kernel, by decide +kernel⟩ ⟨Nat.le_of_ble_eq_true rfl, Nat.le_of_ble_eq_true rfl⟩ hl rfl rfl (Nat.le_of_ble_eq_true rfl) dX3_checkLine_82 ⟨Nat.le_of_ble_eq_true rfl, Nat.le_of_ble_eq_true rfl⟩ (fun F H locs hT hz54788 => ?_)
    have yz54788 := hz54788
    have pf0 := (yz54788.1 _ 0 (Or.inr (by decide)) (Or.inr (by decide))).trans pf0
    have pf1 := (yz54788.1 _ 1 (Or.inr (by decide)) (Or.inr (by decide))).trans pf1
    have pf2 := (yz54788.1 _ 2 (Or.inr (by decide)) (Or.inr (by decide))).trans pf2
    have pf3 := (yz54788.1 _ 0 (Or.inr (by decide)) (Or.inr (by decide))).trans pf3
    have hv54786 := (yz54788.1 _ 4 (Or.inr (by decide)) (Or.inl (by rw [gx0]; decide))).trans hv54786
    have hfr : (∀ b j : Nat, (tag b ≠ 25 ∨ j ≠ 3) → (tag b ≠ 25 ∨ j ≠ 4) → fld F b j = fld Fo b j) ∧ EF tag F Fo := ⟨fun b j n25_3 n25_4 => (yz54788.1 b j n25_3 n25_4).trans (hfr.1 b j n25_3 n25_4), fun b j hb => (yz54788.2 b j hb).trans (hfr.2 b j hb)⟩
    exact t_vret hQ X hT hfr (Nat.le_of_ble_eq_true rfl) (Nat.le_of_ble_eq_true rfl) dX3_checkLine_85
  have K57 : ∀  (F : Nat → va_E) (H : Heap) (locs : List Loc) (ls : Array Slot), TH G ttC A s tag L F H locs → ((∀ b j : Nat, (tag b ≠ 25 ∨ j ≠ 3) → (tag b ≠ 25 ∨ j ≠ 4) → fld F b j = fld Fo b j) ∧ EF tag F Fo) → fld F p0 0 = .ref x0 → fld F p0 1 = .ref x1 → fld F p0 2 = .ref x2 → fld F x0 0 = .ref x3 → lv_has ls 2 [(0, .ref p0), (1, .int p1)] → W p l e { frames := 1, cells := 0, slots := 0, locals := 22 } s m args below meth c H locs 0 0 Q (F0 m 57 ls []) := by
    intro F H locs ls hT hfr pf0 pf1 pf2 pf3 hl
    refine lv_iload_n hx hb dX3_checkLine_57 rfl (lv_at hl 1 rfl) ?_
    refine lv_iconst (v := 2) hx hb dX3_checkLine_58 (by decide) ?_
    refine lv_icmp_ne (tgt := 85) hx hb dX3_checkLine_59 (by decide) (fun c54789 => ?_) (fun c54789 => ?_)
    · have w54790 := cv_ne (rfl : p1.toInt = p1.toInt) (by decide : (2 : Int32).toInt = 2) c54789
      exact t_vret hQ X hT hfr (Nat.le_of_ble_eq_true rfl) (Nat.le_of_ble_eq_true rfl) dX3_checkLine_85
    · have w54791 := cv_eq (rfl : p1.toInt = p1.toInt) (by decide : (2 : Int32).toInt = 2) c54789
      refine lv_aload_n hx hb dX3_checkLine_62 rfl (lv_at hl 0 rfl) ?_
      refine t_get (C := RX3) (T := TX3) (N := 13) X hT m0 g0 rfl rfl 1 (by decide) qw_161 inlX3 rfl dX3_checkLine_63 (fun v54792 hv54792 ov54792 => ?_)
      obtain rfl : v54792 = .ref x1 := hv54792.symm.trans pf1
      refine t_get (C := RX1) (T := TX1) (N := 20) X hT mx1 gx1 rfl rfl 10 (by decide) qw_172 inlX1 rfl dX3_checkLine_66 (fun v54793 hv54793 ov54793 => ?_)
      obtain ⟨z54794, rfl, rz54794⟩ := okV_i ov54793
      refine lv_if_le (tgt := 85) hx hb dX3_checkLine_69 (by decide) (fun c54795 => ?_) (fun c54795 => ?_)
      · have w54796 := cv_le (rfl : z54794.toInt = z54794.toInt) (by decide : (0 : Int32).toInt = 0) c54795
        exact t_vret hQ X hT hfr (Nat.le_of_ble_eq_true rfl) (Nat.le_of_ble_eq_true rfl) dX3_checkLine_85
      · have w54797 := cv_nle (rfl : z54794.toInt = z54794.toInt) (by decide : (0 : Int32).toInt = 0) c54795
        exact K72  _ _ _ _  hT hfr pf0 pf1 pf2 pf3 (lv_sub hl [0, 1] rfl)
  refine lv_aload_n hx hb dX3_checkLine_0 rfl (lv_at hl 0 rfl) ?_
  refine lv_iload_n hx hb dX3_checkLine_1 rfl (lv_at hl 1 rfl) ?_
  refine t_cVi (n := 1) (C := RX3) (T := TX3) (N := 13) (As := [.int p1]) (rest := []) X hT (kt144_X3_isLineAgain l G tag L F hT.2.2.2 p0 p1 m0 g0) m0 g0 rfl rfl qw_295 qw_296 qw_297 qw_28 qw_298 ⟨rfl, by decide +kernel, by decide +kernel, by decide +kernel⟩ ⟨Nat.le_of_ble_eq_true rfl, Nat.le_of_ble_eq_true rfl⟩ hl rfl rfl (Nat.le_of_ble_eq_true rfl) dX3_checkLine_2 ⟨Nat.le_of_ble_eq_true rfl, Nat.le_of_ble_eq_true rfl⟩ (fun z54798 F9 H locs hT hz54798 => ?_)
  obtain ⟨fz54798, hz54798⟩ := hz54798
  rw [fz54798] at hT
  refine lv_if_eq (tgt := 23) hx hb dX3_checkLine_5 (by decide) (fun c54799 => ?_) (fun c54799 => ?_)
  · have w54800 := cv_eq (rfl : z54798.toInt = z54798.toInt) (by decide : (0 : Int32).toInt = 0) c54799
    refine lv_aload_n hx hb dX3_checkLine_23 rfl (lv_at hl 0 rfl) ?_
    refine lv_iload_n hx hb dX3_checkLine_24 rfl (lv_at hl 1 rfl) ?_
    refine t_cVi (n := 1) (C := RX3) (T := TX3) (N := 13) (As := [.int p1]) (rest := []) X hT (kt145_X3_isLineTooMany l G tag L F hT.2.2.2 p0 p1 x0 x1 x2 x3 m0 g0 mx0 gx0 pf0 mx1 gx1 pf1 mx2 gx2 pf2 mx3 gx3 pf3) m0 g0 rfl rfl qw_299 qw_300 qw_301 qw_28 qw_302 ⟨rfl, by decide +kernel, by decide +kernel, by decide +kernel⟩ ⟨Nat.le_of_ble_eq_true rfl, Nat.le_of_ble_eq_true rfl⟩ hl rfl rfl (Nat.le_of_ble_eq_true rfl) dX3_checkLine_25 ⟨Nat.le_of_ble_eq_true rfl, Nat.le_of_ble_eq_true rfl⟩ (fun z54801 F9 H locs hT hz54801 => ?_)
    obtain ⟨fz54801, hz54801⟩ := hz54801
    rw [fz54801] at hT
    refine lv_if_eq (tgt := 46) hx hb dX3_checkLine_28 (by decide) (fun c54802 => ?_) (fun c54802 => ?_)
    · have w54803 := cv_eq (rfl : z54801.toInt = z54801.toInt) (by decide : (0 : Int32).toInt = 0) c54802
      refine lv_iload_n hx hb dX3_checkLine_46 rfl (lv_at hl 1 rfl) ?_
      refine lv_if_eq (tgt := 57) hx hb dX3_checkLine_47 (by decide) (fun c54804 => ?_) (fun c54804 => ?_)
      · have w54805 := cv_eq (rfl : p1.toInt = p1.toInt) (by decide : (0 : Int32).toInt = 0) c54804
        exact K57  _ _ _ _  hT hfr pf0 pf1 pf2 pf3 (lv_sub hl [0, 1] rfl)
      · have w54806 := cv_ne (rfl : p1.toInt = p1.toInt) (by decide : (0 : Int32).toInt = 0) c54804
        refine lv_aload_n hx hb dX3_checkLine_50 rfl (lv_at hl 0 rfl) ?_
        refine t_get (C := RX3) (T := TX3) (N := 13) X hT m0 g0 rfl rfl 5 (by decide) qw_165 inlX3 rfl dX3_checkLine_51 (fun v54807 hv54807 ov54807 => ?_)
        obtain ⟨z54808, rfl, rz54808⟩ := okV_i ov54807
        refine lv_if_eq (tgt := 72) hx hb dX3_checkLine_54 (by decide) (fun c54809 => ?_) (fun c54809 => ?_)
        · have w54810 := cv_eq (rfl : z54808.toInt = z54808.toInt) (by decide : (0 : Int32).toInt = 0) c54809
          exact K72  _ _ _ _  hT hfr pf0 pf1 pf2 pf3 (lv_sub hl [0, 1] rfl)
        · have w54811 := cv_ne (rfl : z54808.toInt = z54808.toInt) (by decide : (0 : Int32).toInt = 0) c54809
          exact K57  _ _ _ _  hT hfr pf0 pf1 pf2 pf3 (lv_sub hl [0, 1] rfl)
    · have w54812 := cv_ne (rfl : z54801.toInt = z54801.toInt) (by decide : (0 : Int32).toInt = 0) c54802
      refine lv_aload_n hx hb dX3_checkLine_31 rfl (lv_at hl 0 rfl) ?_
      refine lv_iconst (v := 5) hx hb dX3_checkLine_32 (by decide) ?_
      refine lv_aload_n hx hb dX3_checkLine_33 rfl (lv_at hl 0 rfl) ?_
      refine t_get (C := RX3) (T := TX3) (N := 13) X hT m0 g0 rfl rfl 0 (by decide) qw_73 inlX3 rfl dX3_checkLine_34 (fun v54813 hv54813 ov54813 => ?_)
      obtain rfl : v54813 = .ref x0 := hv54813.symm.trans pf0
      refine t_get (C := RX8) (T := TX8) (N := 8) X hT mx0 gx0 rfl rfl 4 (by decide) qw_227 inlX8 rfl dX3_checkLine_37 (fun v54814 hv54814 ov54814 => ?_)
      obtain ⟨z54815, rfl, rz54815⟩ := okV_i ov54814
      refine t_cVv (n := 2) (C := RX3) (T := TX3) (N := 13) (As := [.int 5, .int z54815]) (rest := []) X hT (kt146_X3_fail l G tag L F hT.2.2.2 p0 5 z54815 m0 g0) m0 g0 rfl rfl qw_287 qw_288 qw_289 qw_28 qw_290 ⟨rfl, by decide +kernel, by decide +kernel, by decide +kernel⟩ ⟨Nat.le_of_ble_eq_true rfl, Nat.le_of_ble_eq_true rfl⟩ hl rfl rfl (Nat.le_of_ble_eq_true rfl) dX3_checkLine_40 ⟨Nat.le_of_ble_eq_true rfl, Nat.le_of_ble_eq_true rfl⟩ (fun F H locs hT hz54816 => ?_)
      have yz54816 := hz54816
      have pf0 := (yz54816.1 _ 0 (Or.inr (by decide)) (Or.inr (by decide))).trans pf0
      have pf1 := (yz54816.1 _ 1 (Or.inr (by decide)) (Or.inr (by decide))).trans pf1
      have pf2 := (yz54816.1 _ 2 (Or.inr (by decide)) (Or.inr (by decide))).trans pf2
      have pf3 := (yz54816.1 _ 0 (Or.inr (by decide)) (Or.inr (by decide))).trans pf3
      have hv54814 := (yz54816.1 _ 4 (Or.inr (by decide)) (Or.inl (by rw [gx0]; decide))).trans hv54814
      have hfr : (∀ b j : Nat, (tag b ≠ 25 ∨ j ≠ 3) → (tag b ≠ 25 ∨ j ≠ 4) → fld F b j = fld Fo b j) ∧ EF tag F Fo := ⟨fun b j n25_3 n25_4 => (yz54816.1 b j n25_3 n25_4).trans (hfr.1 b j n25_3 n25_4), fun b j hb => (yz54816.2 b j hb).trans (hfr.2 b j hb)⟩
      refine lv_goto (tgt := 85) hx hb dX3_checkLine_43 (by decide) ?_
      exact t_vret hQ X hT hfr (Nat.le_of_ble_eq_true rfl) (Nat.le_of_ble_eq_true rfl) dX3_checkLine_85
  · have w54817 := cv_ne (rfl : z54798.toInt = z54798.toInt) (by decide : (0 : Int32).toInt = 0) c54799
    refine lv_aload_n hx hb dX3_checkLine_8 rfl (lv_at hl 0 rfl) ?_
    refine lv_iconst (v := 3) hx hb dX3_checkLine_9 (by decide) ?_
    refine lv_aload_n hx hb dX3_checkLine_10 rfl (lv_at hl 0 rfl) ?_
    refine t_get (C := RX3) (T := TX3) (N := 13) X hT m0 g0 rfl rfl 0 (by decide) qw_73 inlX3 rfl dX3_checkLine_11 (fun v54818 hv54818 ov54818 => ?_)
    obtain rfl : v54818 = .ref x0 := hv54818.symm.trans pf0
    refine t_get (C := RX8) (T := TX8) (N := 8) X hT mx0 gx0 rfl rfl 4 (by decide) qw_227 inlX8 rfl dX3_checkLine_14 (fun v54819 hv54819 ov54819 => ?_)
    obtain ⟨z54820, rfl, rz54820⟩ := okV_i ov54819
    refine t_cVv (n := 2) (C := RX3) (T := TX3) (N := 13) (As := [.int 3, .int z54820]) (rest := []) X hT (kt146_X3_fail l G tag L F hT.2.2.2 p0 3 z54820 m0 g0) m0 g0 rfl rfl qw_287 qw_288 qw_289 qw_28 qw_290 ⟨rfl, by decide +kernel, by decide +kernel, by decide +kernel⟩ ⟨Nat.le_of_ble_eq_true rfl, Nat.le_of_ble_eq_true rfl⟩ hl rfl rfl (Nat.le_of_ble_eq_true rfl) dX3_checkLine_17 ⟨Nat.le_of_ble_eq_true rfl, Nat.le_of_ble_eq_true rfl⟩ (fun F H locs hT hz54821 => ?_)
    have yz54821 := hz54821
    have pf0 := (yz54821.1 _ 0 (Or.inr (by decide)) (Or.inr (by decide))).trans pf0
    have pf1 := (yz54821.1 _ 1 (Or.inr (by decide)) (Or.inr (by decide))).trans pf1
    have pf2 := (yz54821.1 _ 2 (Or.inr (by decide)) (Or.inr (by decide))).trans pf2
    have pf3 := (yz54821.1 _ 0 (Or.inr (by decide)) (Or.inr (by decide))).trans pf3
    have hv54819 := (yz54821.1 _ 4 (Or.inr (by decide)) (Or.inl (by rw [gx0]; decide))).trans hv54819
    have hfr : (∀ b j : Nat, (tag b ≠ 25 ∨ j ≠ 3) → (tag b ≠ 25 ∨ j ≠ 4) → fld F b j = fld Fo b j) ∧ EF tag F Fo := ⟨fun b j n25_3 n25_4 => (yz54821.1 b j n25_3 n25_4).trans (hfr.1 b j n25_3 n25_4), fun b j hb => (yz54821.2 b j hb).trans (hfr.2 b j hb)⟩
    refine lv_goto (tgt := 85) hx hb dX3_checkLine_20 (by decide) ?_
    exact t_vret hQ X hT hfr (Nat.le_of_ble_eq_true rfl) (Nat.le_of_ble_eq_true rfl) dX3_checkLine_85
set_option maxHeartbeats 4000000 in
set_option maxRecDepth 100000 in
theorem kt148_X3_findName (l : Launch) (G : KG) (tag : Nat → Nat) (L : List Nat) (F : Nat → va_E) (ho : okT G ttC tag L F) (p0 : Nat) (x0 : Nat) (x1 : Nat) (x2 : Nat) (x3 : Nat) (m0 : p0 ∈ L) (g0 : tag p0 = 25) (mx0 : x0 ∈ L) (gx0 : tag x0 = 24) (pf0 : fld F p0 0 = .ref x0) (mx1 : x1 ∈ L) (gx1 : tag x1 = 18) (pf1 : fld F p0 1 = .ref x1) (mx2 : x2 ∈ L) (gx2 : tag x2 = 19) (pf2 : fld F p0 2 = .ref x2) (mx3 : x3 ∈ L) (gx3 : tag x3 = 1) (pf3 : fld F x0 0 = .ref x3) : TMi l yX3_findName cX3_findName 2 (some .int) { frames := 0, cells := 0, slots := 0, locals := 0 } G ttC tag L F [.ref p0] (fun r F1 => F1 = F ∧ ((-1) ≤ r.toInt ∧ r.toInt ≤ 19)) := by
  refine t_bodyi (y := yX3_findName) (cd := cX3_findName) (mL := 2) (rt := (some .int)) (rm := { frames := 0, cells := 0, slots := 0, locals := 0 }) (av := [.ref p0]) (by decide) (Nat.le_of_ble_eq_true rfl) ho ?_
  intro p e s m args below meth c ls A Q hQ X hT hl
  have hx := X.1.1
  have hb := X.1.2.1
  have hl : lv_has ls 2 [(0, .ref p0)] := hl
  have K2 : ∀ (n : Nat) (z55627 : Int32) (H : Heap) (locs : List Loc) (ls : Array Slot), (20 - z55627.toInt < (n : Int)) → (0 ≤ z55627.toInt ∧ z55627.toInt ≤ 20) → TH G ttC A s tag L F H locs → lv_has ls 2 [(0, .ref p0), (1, .int z55627)] → W p l e { frames := 0, cells := 0, slots := 0, locals := 0 } s m args below meth c H locs 0 0 Q (F0 m 2 ls []) := by
    intro n
    induction n with
    | zero =>
      intro z55627 H locs ls hn rz55627 hT hl
      exfalso
      omega
    | succ n ih2 =>
      intro z55627 H locs ls hn rz55627 hT hl
      have K40 : ∀ (z55629 : Int32) (H : Heap) (locs : List Loc) (ls : Array Slot), (1 ≤ z55629.toInt ∧ z55629.toInt ≤ 20) → (0 ≤ z55627.toInt ∧ z55627.toInt ≤ 19) → TH G ttC A s tag L F H locs → fld F p0 12 = .int z55629 → lv_has ls 2 [(0, .ref p0), (1, .int z55627)] → W p l e { frames := 0, cells := 0, slots := 0, locals := 0 } s m args below meth c H locs 0 0 Q (F0 m 40 ls []) := by
        intro z55629 H locs ls rz55629 r9s55628 hT qz55629 hl
        obtain ⟨z55630, ez55630⟩ : ∃ y : Int32, y = z55627 + 1 := ⟨_, rfl⟩
        have hz55630 : z55630.toInt = z55627.toInt + 1 := ar_add ez55630 rfl (by decide : (1 : Int32).toInt = 1) (by omega) (by omega)
        refine lv_iinc (v := z55630) (lv' := [(1, .int z55630), (0, .ref p0)]) hx hb dX3_findName_40 hl (k := 1) rfl (by rw [ez55630]; rfl) (by decide) rfl (fun ls hl => ?_)
        refine lv_goto (tgt := 2) hx hb dX3_findName_43 (by decide) ?_
        exact ih2 z55630 _ _ _ (by omega) (by omega) hT  (lv_sub hl [1, 0] rfl)
      refine lv_iload_n hx hb dX3_findName_2 rfl (lv_at hl 1 rfl) ?_
      refine lv_aload_n hx hb dX3_findName_3 rfl (lv_at hl 0 rfl) ?_
      refine t_get (C := RX3) (T := TX3) (N := 13) X hT m0 g0 rfl rfl 12 (by decide) qw_169 inlX3 rfl dX3_findName_4 (fun v55631 hv55631 ov55631 => ?_)
      obtain ⟨z55632, rfl, rz55632⟩ := okV_i ov55631
      refine lv_icmp_ge (tgt := 46) hx hb dX3_findName_7 (by decide) (fun c55633 => ?_) (fun c55633 => ?_)
      · have w55634 := cv_le (rfl : z55632.toInt = z55632.toInt) (rfl : z55627.toInt = z55627.toInt) c55633
        refine lv_iconst (v := (-1)) hx hb dX3_findName_46 (by decide) ?_
        exact t_iret hQ X hT (⟨rfl, (by decide)⟩) (Nat.le_of_ble_eq_true rfl) (Nat.le_of_ble_eq_true rfl) dX3_findName_47
      · have w55635 := cv_nle (rfl : z55632.toInt = z55632.toInt) (rfl : z55627.toInt = z55627.toInt) c55633
        refine lv_aload_n hx hb dX3_findName_10 rfl (lv_at hl 0 rfl) ?_
        refine t_get (C := RX3) (T := TX3) (N := 13) X hT m0 g0 rfl rfl 0 (by decide) qw_73 inlX3 rfl dX3_findName_11 (fun v55636 hv55636 ov55636 => ?_)
        obtain rfl : v55636 = .ref x0 := hv55636.symm.trans pf0
        refine t_get (C := RX8) (T := TX8) (N := 8) X hT mx0 gx0 rfl rfl 3 (by decide) qw_170 inlX8 rfl dX3_findName_14 (fun v55637 hv55637 ov55637 => ?_)
        obtain ⟨z55638, rfl, rz55638⟩ := okV_i ov55637
        refine lv_iconst (v := 1) hx hb dX3_findName_17 (by decide) ?_
        refine lv_icmp_ne (tgt := 40) hx hb dX3_findName_18 (by decide) (fun c55639 => ?_) (fun c55639 => ?_)
        · have w55640 := cv_ne (rfl : z55638.toInt = z55638.toInt) (by decide : (1 : Int32).toInt = 1) c55639
          exact K40 z55632 _ _ _ (by omega) (by omega) hT hv55631 (lv_sub hl [0, 1] rfl)
        · have w55641 := cv_eq (rfl : z55638.toInt = z55638.toInt) (by decide : (1 : Int32).toInt = 1) c55639
          refine lv_aload_n hx hb dX3_findName_21 rfl (lv_at hl 0 rfl) ?_
          refine t_get (C := RX3) (T := TX3) (N := 13) X hT m0 g0 rfl rfl 9 (by decide) qw_74 inlX3 rfl dX3_findName_22 (fun v55642 hv55642 ov55642 => ?_)
          obtain ⟨b55643, rfl, mb55643, gb55643⟩ := okV_r ov55642
          have gb55643 : tag b55643 = 13 := tg_of gb55643
          refine lv_iload_n hx hb dX3_findName_25 rfl (lv_at hl 1 rfl) ?_
          refine t_lld X hT mb55643 gb55643 rfl (by omega) dX3_findName_26 (fun z55644 => ?_)
          refine lv_aload_n hx hb dX3_findName_27 rfl (lv_at hl 0 rfl) ?_
          refine t_get (C := RX3) (T := TX3) (N := 13) X hT m0 g0 rfl rfl 0 (by decide) qw_73 inlX3 rfl dX3_findName_28 (fun v55645 hv55645 ov55645 => ?_)
          obtain rfl : v55645 = .ref x0 := hv55645.symm.trans pf0
          refine t_get (C := RX8) (T := TX8) (N := 8) X hT mx0 gx0 rfl rfl 7 (by decide) qw_360 inlX8 rfl dX3_findName_31 (fun v55646 hv55646 ov55646 => ?_)
          obtain ⟨z55647, rfl⟩ := ov55646
          refine m_lcmp X dX3_findName_34 (fun z55648 rz55648 => ?_)
          refine lv_if_ne (tgt := 40) hx hb dX3_findName_35 (by decide) (fun c55649 => ?_) (fun c55649 => ?_)
          · have w55650 := cv_ne (rfl : z55648.toInt = z55648.toInt) (by decide : (0 : Int32).toInt = 0) c55649
            exact K40 z55632 _ _ _ (by omega) (by omega) hT hv55631 (lv_sub hl [0, 1] rfl)
          · have w55651 := cv_eq (rfl : z55648.toInt = z55648.toInt) (by decide : (0 : Int32).toInt = 0) c55649
            refine lv_iload_n hx hb dX3_findName_38 rfl (lv_at hl 1 rfl) ?_
            exact t_iret hQ X hT (⟨rfl, (by omega)⟩) (Nat.le_of_ble_eq_true rfl) (Nat.le_of_ble_eq_true rfl) dX3_findName_39
  refine lv_iconst (v := 0) hx hb dX3_findName_0 (by decide) ?_
  refine lv_istore_n (lv' := [(1, .int 0), (0, .ref p0)]) hx hb dX3_findName_1 rfl hl (by decide) rfl (fun ls hl => ?_)
  have kk55652 : (0 : Int32).toInt = 0 := by decide
  exact K2 21 0 _ _ _ (by omega) (by decide) hT  (lv_sub hl [1, 0] rfl)
set_option maxHeartbeats 4000000 in
set_option maxRecDepth 100000 in
theorem kt149_X3_whole (l : Launch) (G : KG) (tag : Nat → Nat) (L : List Nat) (Fo : Nat → va_E) (ho : okT G ttC tag L Fo) (p0 : Nat) (p1 : Int32) (p2 : Int32) (x0 : Nat) (x1 : Nat) (x2 : Nat) (x3 : Nat) (m0 : p0 ∈ L) (g0 : tag p0 = 25) (mx0 : x0 ∈ L) (gx0 : tag x0 = 24) (pf0 : fld Fo p0 0 = .ref x0) (mx1 : x1 ∈ L) (gx1 : tag x1 = 18) (pf1 : fld Fo p0 1 = .ref x1) (mx2 : x2 ∈ L) (gx2 : tag x2 = 19) (pf2 : fld Fo p0 2 = .ref x2) (mx3 : x3 ∈ L) (gx3 : tag x3 = 1) (pf3 : fld Fo x0 0 = .ref x3) : TMi l yX3_whole cX3_whole 4 (some .int) { frames := 3, cells := 0, slots := 0, locals := 62 } G ttC tag L Fo [.ref p0, .int p1, .int p2] (fun r F1 => ((-2147483648) ≤ r.toInt ∧ r.toInt ≤ 2147483647) ∧ ((∀ b j : Nat, (tag b ≠ 24 ∨ j ≠ 2) → (tag b ≠ 24 ∨ j ≠ 3) → (tag b ≠ 24 ∨ j ≠ 4) → (tag b ≠ 24 ∨ j ≠ 5) → (tag b ≠ 24 ∨ j ≠ 6) → (tag b ≠ 24 ∨ j ≠ 7) → (tag b ≠ 25 ∨ j ≠ 3) → (tag b ≠ 25 ∨ j ≠ 4) → fld F1 b j = fld Fo b j) ∧ EF tag F1 Fo)) := by
  refine t_bodyi (y := yX3_whole) (cd := cX3_whole) (mL := 4) (rt := (some .int)) (rm := { frames := 3, cells := 0, slots := 0, locals := 62 }) (av := [.ref p0, .int p1, .int p2]) (by decide) (Nat.le_of_ble_eq_true rfl) ho ?_
  intro p e s m args below meth c ls A Q hQ X hT hl
  have hx := X.1.1
  have hb := X.1.2.1
  have hl : lv_has ls 4 [(0, .ref p0), (1, .int p1), (2, .int p2)] := hl
  have rp1 := rg_all p1
  have rp2 := rg_all p2
  obtain ⟨F, hFo⟩ : ∃ F : Nat → va_E, F = Fo := ⟨_, rfl⟩
  rw [← hFo] at hT pf0 pf1 pf2 pf3
  have hfr : (∀ b j : Nat, (tag b ≠ 24 ∨ j ≠ 2) → (tag b ≠ 24 ∨ j ≠ 3) → (tag b ≠ 24 ∨ j ≠ 4) → (tag b ≠ 24 ∨ j ≠ 5) → (tag b ≠ 24 ∨ j ≠ 6) → (tag b ≠ 24 ∨ j ≠ 7) → (tag b ≠ 25 ∨ j ≠ 3) → (tag b ≠ 25 ∨ j ≠ 4) → fld F b j = fld Fo b j) ∧ EF tag F Fo := by
    rw [hFo]
    exact ⟨by intros; rfl, fun _ _ _ => rfl⟩
  have K60 : ∀  (F : Nat → va_E) (H : Heap) (locs : List Loc) (ls : Array Slot), TH G ttC A s tag L F H locs → ((∀ b j : Nat, (tag b ≠ 24 ∨ j ≠ 2) → (tag b ≠ 24 ∨ j ≠ 3) → (tag b ≠ 24 ∨ j ≠ 4) → (tag b ≠ 24 ∨ j ≠ 5) → (tag b ≠ 24 ∨ j ≠ 6) → (tag b ≠ 24 ∨ j ≠ 7) → (tag b ≠ 25 ∨ j ≠ 3) → (tag b ≠ 25 ∨ j ≠ 4) → fld F b j = fld Fo b j) ∧ EF tag F Fo) → fld F p0 0 = .ref x0 → fld F p0 1 = .ref x1 → fld F p0 2 = .ref x2 → fld F x0 0 = .ref x3 → lv_has ls 4 [(0, .ref p0), (1, .int p1), (2, .int p2)] → W p l e { frames := 3, cells := 0, slots := 0, locals := 62 } s m args below meth c H locs 0 0 Q (F0 m 60 ls []) := by
    intro F H locs ls hT hfr pf0 pf1 pf2 pf3 hl
    refine lv_aload_n hx hb dX3_whole_60 rfl (lv_at hl 0 rfl) ?_
    refine t_get (C := RX3) (T := TX3) (N := 13) X hT m0 g0 rfl rfl 3 (by decide) qw_163 inlX3 rfl dX3_whole_61 (fun v56222 hv56222 ov56222 => ?_)
    obtain ⟨z56223, rfl, rz56223⟩ := okV_i ov56222
    refine lv_if_eq (tgt := 69) hx hb dX3_whole_64 (by decide) (fun c56224 => ?_) (fun c56224 => ?_)
    · have w56225 := cv_eq (rfl : z56223.toInt = z56223.toInt) (by decide : (0 : Int32).toInt = 0) c56224
      refine lv_aload_n hx hb dX3_whole_69 rfl (lv_at hl 0 rfl) ?_
      refine t_get (C := RX3) (T := TX3) (N := 13) X hT m0 g0 rfl rfl 0 (by decide) qw_73 inlX3 rfl dX3_whole_70 (fun v56226 hv56226 ov56226 => ?_)
      obtain rfl : v56226 = .ref x0 := hv56226.symm.trans pf0
      refine t_get (C := RX8) (T := TX8) (N := 8) X hT mx0 gx0 rfl rfl 6 (by decide) qw_322 inlX8 rfl dX3_whole_73 (fun v56227 hv56227 ov56227 => ?_)
      obtain ⟨z56228, rfl, rz56228⟩ := okV_i ov56227
      refine lv_istore_n (lv' := [(3, .int z56228), (0, .ref p0), (1, .int p1), (2, .int p2)]) hx hb dX3_whole_76 rfl hl (by decide) rfl (fun ls hl => ?_)
      refine lv_aload_n hx hb dX3_whole_77 rfl (lv_at hl 1 rfl) ?_
      refine t_get (C := RX3) (T := TX3) (N := 13) X hT m0 g0 rfl rfl 0 (by decide) qw_73 inlX3 rfl dX3_whole_78 (fun v56229 hv56229 ov56229 => ?_)
      obtain rfl : v56229 = .ref x0 := hv56229.symm.trans pf0
      refine t_cVv (n := 0) (C := RX8) (T := TX8) (N := 8) (As := []) (rest := []) X hT (kt98_X8_advance l G tag L F hT.2.2.2 x0 x3 mx0 gx0 mx3 gx3 pf3) mx0 gx0 rfl rfl qw_305 qw_197 qw_198 qw_72 qw_199 ⟨rfl, by decide +kernel, by decide +kernel, by decide +kernel⟩ ⟨Nat.le_of_ble_eq_true rfl, Nat.le_of_ble_eq_true rfl⟩ hl rfl rfl (Nat.le_of_ble_eq_true rfl) dX3_whole_81 ⟨Nat.le_of_ble_eq_true rfl, Nat.le_of_ble_eq_true rfl⟩ (fun F H locs hT hz56230 => ?_)
      have yz56230 := hz56230
      have pf0 := (yz56230.1 _ 0 (Or.inr (by decide)) (Or.inr (by decide)) (Or.inr (by decide)) (Or.inr (by decide)) (Or.inr (by decide)) (Or.inr (by decide))).trans pf0
      have pf1 := (yz56230.1 _ 1 (Or.inr (by decide)) (Or.inr (by decide)) (Or.inr (by decide)) (Or.inr (by decide)) (Or.inr (by decide)) (Or.inr (by decide))).trans pf1
      have pf2 := (yz56230.1 _ 2 (Or.inl (by rw [g0]; decide)) (Or.inr (by decide)) (Or.inr (by decide)) (Or.inr (by decide)) (Or.inr (by decide)) (Or.inr (by decide))).trans pf2
      have pf3 := (yz56230.1 _ 0 (Or.inr (by decide)) (Or.inr (by decide)) (Or.inr (by decide)) (Or.inr (by decide)) (Or.inr (by decide)) (Or.inr (by decide))).trans pf3
      have hv56222 := (yz56230.1 _ 3 (Or.inr (by decide)) (Or.inl (by rw [g0]; decide)) (Or.inr (by decide)) (Or.inr (by decide)) (Or.inr (by decide)) (Or.inr (by decide))).trans hv56222
      have hfr : (∀ b j : Nat, (tag b ≠ 24 ∨ j ≠ 2) → (tag b ≠ 24 ∨ j ≠ 3) → (tag b ≠ 24 ∨ j ≠ 4) → (tag b ≠ 24 ∨ j ≠ 5) → (tag b ≠ 24 ∨ j ≠ 6) → (tag b ≠ 24 ∨ j ≠ 7) → (tag b ≠ 25 ∨ j ≠ 3) → (tag b ≠ 25 ∨ j ≠ 4) → fld F b j = fld Fo b j) ∧ EF tag F Fo := ⟨fun b j n24_2 n24_3 n24_4 n24_5 n24_6 n24_7 n25_3 n25_4 => (yz56230.1 b j n24_2 n24_3 n24_4 n24_5 n24_6 n24_7).trans (hfr.1 b j n24_2 n24_3 n24_4 n24_5 n24_6 n24_7 n25_3 n25_4), fun b j hb => (yz56230.2 b j hb).trans (hfr.2 b j hb)⟩
      refine lv_iload_n hx hb dX3_whole_84 rfl (lv_at hl 0 rfl) ?_
      exact t_iret hQ X hT (⟨rg_all _, hfr⟩) (Nat.le_of_ble_eq_true rfl) (Nat.le_of_ble_eq_true rfl) dX3_whole_85
    · have w56231 := cv_ne (rfl : z56223.toInt = z56223.toInt) (by decide : (0 : Int32).toInt = 0) c56224
      refine lv_iload_n hx hb dX3_whole_67 rfl (lv_at hl 1 rfl) ?_
      exact t_iret hQ X hT (⟨rg_all _, hfr⟩) (Nat.le_of_ble_eq_true rfl) (Nat.le_of_ble_eq_true rfl) dX3_whole_68
  have K48 : ∀  (F : Nat → va_E) (H : Heap) (locs : List Loc) (ls : Array Slot), TH G ttC A s tag L F H locs → ((∀ b j : Nat, (tag b ≠ 24 ∨ j ≠ 2) → (tag b ≠ 24 ∨ j ≠ 3) → (tag b ≠ 24 ∨ j ≠ 4) → (tag b ≠ 24 ∨ j ≠ 5) → (tag b ≠ 24 ∨ j ≠ 6) → (tag b ≠ 24 ∨ j ≠ 7) → (tag b ≠ 25 ∨ j ≠ 3) → (tag b ≠ 25 ∨ j ≠ 4) → fld F b j = fld Fo b j) ∧ EF tag F Fo) → fld F p0 0 = .ref x0 → fld F p0 1 = .ref x1 → fld F p0 2 = .ref x2 → fld F x0 0 = .ref x3 → lv_has ls 4 [(0, .ref p0), (1, .int p1), (2, .int p2)] → W p l e { frames := 3, cells := 0, slots := 0, locals := 62 } s m args below meth c H locs 0 0 Q (F0 m 48 ls []) := by
    intro F H locs ls hT hfr pf0 pf1 pf2 pf3 hl
    refine lv_aload_n hx hb dX3_whole_48 rfl (lv_at hl 0 rfl) ?_
    refine lv_iconst (v := 4) hx hb dX3_whole_49 (by decide) ?_
    refine lv_aload_n hx hb dX3_whole_50 rfl (lv_at hl 0 rfl) ?_
    refine t_get (C := RX3) (T := TX3) (N := 13) X hT m0 g0 rfl rfl 0 (by decide) qw_73 inlX3 rfl dX3_whole_51 (fun v56232 hv56232 ov56232 => ?_)
    obtain rfl : v56232 = .ref x0 := hv56232.symm.trans pf0
    refine t_get (C := RX8) (T := TX8) (N := 8) X hT mx0 gx0 rfl rfl 4 (by decide) qw_227 inlX8 rfl dX3_whole_54 (fun v56233 hv56233 ov56233 => ?_)
    obtain ⟨z56234, rfl, rz56234⟩ := okV_i ov56233
    refine t_cVv (n := 2) (C := RX3) (T := TX3) (N := 13) (As := [.int 4, .int z56234]) (rest := []) X hT (kt146_X3_fail l G tag L F hT.2.2.2 p0 4 z56234 m0 g0) m0 g0 rfl rfl qw_287 qw_288 qw_289 qw_28 qw_290 ⟨rfl, by decide +kernel, by decide +kernel, by decide +kernel⟩ ⟨Nat.le_of_ble_eq_true rfl, Nat.le_of_ble_eq_true rfl⟩ hl rfl rfl (Nat.le_of_ble_eq_true rfl) dX3_whole_57 ⟨Nat.le_of_ble_eq_true rfl, Nat.le_of_ble_eq_true rfl⟩ (fun F H locs hT hz56235 => ?_)
    have yz56235 := hz56235
    have pf0 := (yz56235.1 _ 0 (Or.inr (by decide)) (Or.inr (by decide))).trans pf0
    have pf1 := (yz56235.1 _ 1 (Or.inr (by decide)) (Or.inr (by decide))).trans pf1
    have pf2 := (yz56235.1 _ 2 (Or.inr (by decide)) (Or.inr (by decide))).trans pf2
    have pf3 := (yz56235.1 _ 0 (Or.inr (by decide)) (Or.inr (by decide))).trans pf3
    have hv56233 := (yz56235.1 _ 4 (Or.inr (by decide)) (Or.inl (by rw [gx0]; decide))).trans hv56233
    have hfr : (∀ b j : Nat, (tag b ≠ 24 ∨ j ≠ 2) → (tag b ≠ 24 ∨ j ≠ 3) → (tag b ≠ 24 ∨ j ≠ 4) → (tag b ≠ 24 ∨ j ≠ 5) → (tag b ≠ 24 ∨ j ≠ 6) → (tag b ≠ 24 ∨ j ≠ 7) → (tag b ≠ 25 ∨ j ≠ 3) → (tag b ≠ 25 ∨ j ≠ 4) → fld F b j = fld Fo b j) ∧ EF tag F Fo := ⟨fun b j n24_2 n24_3 n24_4 n24_5 n24_6 n24_7 n25_3 n25_4 => (yz56235.1 b j n25_3 n25_4).trans (hfr.1 b j n24_2 n24_3 n24_4 n24_5 n24_6 n24_7 n25_3 n25_4), fun b j hb => (yz56235.2 b j hb).trans (hfr.2 b j hb)⟩
    exact K60  _ _ _ _  hT hfr pf0 pf1 pf2 pf3 (lv_sub hl [0, 1, 2] rfl)
  refine lv_aload_n hx hb dX3_whole_0 rfl (lv_at hl 0 rfl) ?_
  refine t_get (C := RX3) (T := TX3) (N := 13) X hT m0 g0 rfl rfl 0 (by decide) qw_73 inlX3 rfl dX3_whole_1 (fun v56236 hv56236 ov56236 => ?_)
  obtain rfl : v56236 = .ref x0 := hv56236.symm.trans pf0
  refine t_get (C := RX8) (T := TX8) (N := 8) X hT mx0 gx0 rfl rfl 3 (by decide) qw_170 inlX8 rfl dX3_whole_4 (fun v56237 hv56237 ov56237 => ?_)
  obtain ⟨z56238, rfl, rz56238⟩ := okV_i ov56237
  refine lv_iconst (v := 2) hx hb dX3_whole_7 (by decide) ?_
  refine lv_icmp_eq (tgt := 26) hx hb dX3_whole_8 (by decide) (fun c56239 => ?_) (fun c56239 => ?_)
  · have w56240 := cv_eq (rfl : z56238.toInt = z56238.toInt) (by decide : (2 : Int32).toInt = 2) c56239
    refine lv_aload_n hx hb dX3_whole_26 rfl (lv_at hl 0 rfl) ?_
    refine t_get (C := RX3) (T := TX3) (N := 13) X hT m0 g0 rfl rfl 0 (by decide) qw_73 inlX3 rfl dX3_whole_27 (fun v56241 hv56241 ov56241 => ?_)
    obtain rfl : v56241 = .ref x0 := hv56241.symm.trans pf0
    refine t_get (C := RX8) (T := TX8) (N := 8) X hT mx0 gx0 rfl rfl 6 (by decide) qw_322 inlX8 rfl dX3_whole_30 (fun v56242 hv56242 ov56242 => ?_)
    obtain ⟨z56243, rfl, rz56243⟩ := okV_i ov56242
    refine lv_iload_n hx hb dX3_whole_33 rfl (lv_at hl 1 rfl) ?_
    refine lv_icmp_lt (tgt := 48) hx hb dX3_whole_34 (by decide) (fun c56244 => ?_) (fun c56244 => ?_)
    · have w56245 := cv_lt (rfl : z56243.toInt = z56243.toInt) (rfl : p1.toInt = p1.toInt) c56244
      exact K48  _ _ _ _  hT hfr pf0 pf1 pf2 pf3 (lv_sub hl [0, 1, 2] rfl)
    · have w56246 := cv_nlt (rfl : z56243.toInt = z56243.toInt) (rfl : p1.toInt = p1.toInt) c56244
      refine lv_aload_n hx hb dX3_whole_37 rfl (lv_at hl 0 rfl) ?_
      refine t_get (C := RX3) (T := TX3) (N := 13) X hT m0 g0 rfl rfl 0 (by decide) qw_73 inlX3 rfl dX3_whole_38 (fun v56247 hv56247 ov56247 => ?_)
      obtain rfl : v56247 = .ref x0 := hv56247.symm.trans pf0
      refine t_get (C := RX8) (T := TX8) (N := 8) X hT mx0 gx0 rfl rfl 6 (by decide) qw_322 inlX8 rfl dX3_whole_41 (fun v56248 hv56248 ov56248 => ?_)
      obtain rfl : v56248 = .int z56243 := hv56248.symm.trans hv56242
      refine lv_iload_n hx hb dX3_whole_44 rfl (lv_at hl 2 rfl) ?_
      refine lv_icmp_le (tgt := 60) hx hb dX3_whole_45 (by decide) (fun c56249 => ?_) (fun c56249 => ?_)
      · have w56250 := cv_le (rfl : z56243.toInt = z56243.toInt) (rfl : p2.toInt = p2.toInt) c56249
        exact K60  _ _ _ _  hT hfr pf0 pf1 pf2 pf3 (lv_sub hl [0, 1, 2] rfl)
      · have w56251 := cv_nle (rfl : z56243.toInt = z56243.toInt) (rfl : p2.toInt = p2.toInt) c56249
        exact K48  _ _ _ _  hT hfr pf0 pf1 pf2 pf3 (lv_sub hl [0, 1, 2] rfl)
  · have w56252 := cv_ne (rfl : z56238.toInt = z56238.toInt) (by decide : (2 : Int32).toInt = 2) c56239
    refine lv_aload_n hx hb dX3_whole_11 rfl (lv_at hl 0 rfl) ?_
    refine lv_iconst (v := 1) hx hb dX3_whole_12 (by decide) ?_
    refine lv_aload_n hx hb dX3_whole_13 rfl (lv_at hl 0 rfl) ?_
    refine t_get (C := RX3) (T := TX3) (N := 13) X hT m0 g0 rfl rfl 0 (by decide) qw_73 inlX3 rfl dX3_whole_14 (fun v56253 hv56253 ov56253 => ?_)
    obtain rfl : v56253 = .ref x0 := hv56253.symm.trans pf0
    refine t_get (C := RX8) (T := TX8) (N := 8) X hT mx0 gx0 rfl rfl 4 (by decide) qw_227 inlX8 rfl dX3_whole_17 (fun v56254 hv56254 ov56254 => ?_)
    obtain ⟨z56255, rfl, rz56255⟩ := okV_i ov56254
    refine t_cVv (n := 2) (C := RX3) (T := TX3) (N := 13) (As := [.int 1, .int z56255]) (rest := []) X hT (kt146_X3_fail l G tag L F hT.2.2.2 p0 1 z56255 m0 g0) m0 g0 rfl rfl qw_287 qw_288 qw_289 qw_28 qw_290 ⟨rfl, by decide +kernel, by decide +kernel, by decide +kernel⟩ ⟨Nat.le_of_ble_eq_true rfl, Nat.le_of_ble_eq_true rfl⟩ hl rfl rfl (Nat.le_of_ble_eq_true rfl) dX3_whole_20 ⟨Nat.le_of_ble_eq_true rfl, Nat.le_of_ble_eq_true rfl⟩ (fun F H locs hT hz56256 => ?_)
    have yz56256 := hz56256
    have pf0 := (yz56256.1 _ 0 (Or.inr (by decide)) (Or.inr (by decide))).trans pf0
    have pf1 := (yz56256.1 _ 1 (Or.inr (by decide)) (Or.inr (by decide))).trans pf1
    have pf2 := (yz56256.1 _ 2 (Or.inr (by decide)) (Or.inr (by decide))).trans pf2
    have pf3 := (yz56256.1 _ 0 (Or.inr (by decide)) (Or.inr (by decide))).trans pf3
    have hv56237 := (yz56256.1 _ 3 (Or.inl (by rw [gx0]; decide)) (Or.inr (by decide))).trans hv56237
    have hv56254 := (yz56256.1 _ 4 (Or.inr (by decide)) (Or.inl (by rw [gx0]; decide))).trans hv56254
    have hfr : (∀ b j : Nat, (tag b ≠ 24 ∨ j ≠ 2) → (tag b ≠ 24 ∨ j ≠ 3) → (tag b ≠ 24 ∨ j ≠ 4) → (tag b ≠ 24 ∨ j ≠ 5) → (tag b ≠ 24 ∨ j ≠ 6) → (tag b ≠ 24 ∨ j ≠ 7) → (tag b ≠ 25 ∨ j ≠ 3) → (tag b ≠ 25 ∨ j ≠ 4) → fld F b j = fld Fo b j) ∧ EF tag F Fo := ⟨fun b j n24_2 n24_3 n24_4 n24_5 n24_6 n24_7 n25_3 n25_4 => (yz56256.1 b j n25_3 n25_4).trans (hfr.1 b j n24_2 n24_3 n24_4 n24_5 n24_6 n24_7 n25_3 n25_4), fun b j hb => (yz56256.2 b j hb).trans (hfr.2 b j hb)⟩
    refine lv_goto (tgt := 60) hx hb dX3_whole_23 (by decide) ?_
    exact K60  _ _ _ _  hT hfr pf0 pf1 pf2 pf3 (lv_sub hl [0, 1, 2] rfl)
set_option maxHeartbeats 4000000 in
set_option maxRecDepth 100000 in
theorem kt150_X3_sign (l : Launch) (G : KG) (tag : Nat → Nat) (L : List Nat) (Fo : Nat → va_E) (ho : okT G ttC tag L Fo) (p0 : Nat) (p1 : Int32) (x0 : Nat) (x1 : Nat) (x2 : Nat) (x3 : Nat) (m0 : p0 ∈ L) (g0 : tag p0 = 25) (mx0 : x0 ∈ L) (gx0 : tag x0 = 24) (pf0 : fld Fo p0 0 = .ref x0) (mx1 : x1 ∈ L) (gx1 : tag x1 = 18) (pf1 : fld Fo p0 1 = .ref x1) (mx2 : x2 ∈ L) (gx2 : tag x2 = 19) (pf2 : fld Fo p0 2 = .ref x2) (mx3 : x3 ∈ L) (gx3 : tag x3 = 1) (pf3 : fld Fo x0 0 = .ref x3) : TMv l yX3_sign cX3_sign 2 { frames := 3, cells := 0, slots := 0, locals := 62 } G ttC tag L Fo [.ref p0, .int p1] (fun F1 => ((∀ b j : Nat, (tag b ≠ 24 ∨ j ≠ 2) → (tag b ≠ 24 ∨ j ≠ 3) → (tag b ≠ 24 ∨ j ≠ 4) → (tag b ≠ 24 ∨ j ≠ 5) → (tag b ≠ 24 ∨ j ≠ 6) → (tag b ≠ 24 ∨ j ≠ 7) → (tag b ≠ 25 ∨ j ≠ 3) → (tag b ≠ 25 ∨ j ≠ 4) → fld F1 b j = fld Fo b j) ∧ EF tag F1 Fo)) := by
  refine t_bodyv (y := yX3_sign) (cd := cX3_sign) (mL := 2) (rm := { frames := 3, cells := 0, slots := 0, locals := 62 }) (av := [.ref p0, .int p1]) (by decide) (Nat.le_of_ble_eq_true rfl) ho ?_
  intro p e s m args below meth c ls A Q hQ X hT hl
  have hx := X.1.1
  have hb := X.1.2.1
  have hl : lv_has ls 2 [(0, .ref p0), (1, .int p1)] := hl
  have rp1 := rg_all p1
  obtain ⟨F, hFo⟩ : ∃ F : Nat → va_E, F = Fo := ⟨_, rfl⟩
  rw [← hFo] at hT pf0 pf1 pf2 pf3
  have hfr : (∀ b j : Nat, (tag b ≠ 24 ∨ j ≠ 2) → (tag b ≠ 24 ∨ j ≠ 3) → (tag b ≠ 24 ∨ j ≠ 4) → (tag b ≠ 24 ∨ j ≠ 5) → (tag b ≠ 24 ∨ j ≠ 6) → (tag b ≠ 24 ∨ j ≠ 7) → (tag b ≠ 25 ∨ j ≠ 3) → (tag b ≠ 25 ∨ j ≠ 4) → fld F b j = fld Fo b j) ∧ EF tag F Fo := by
    rw [hFo]
    exact ⟨by intros; rfl, fun _ _ _ => rfl⟩
  have K40 : ∀ (z56566 : Int32) (F : Nat → va_E) (H : Heap) (locs : List Loc) (ls : Array Slot), (0 ≤ z56566.toInt ∧ z56566.toInt ≤ 0) → TH G ttC A s tag L F H locs → ((∀ b j : Nat, (tag b ≠ 24 ∨ j ≠ 2) → (tag b ≠ 24 ∨ j ≠ 3) → (tag b ≠ 24 ∨ j ≠ 4) → (tag b ≠ 24 ∨ j ≠ 5) → (tag b ≠ 24 ∨ j ≠ 6) → (tag b ≠ 24 ∨ j ≠ 7) → (tag b ≠ 25 ∨ j ≠ 3) → (tag b ≠ 25 ∨ j ≠ 4) → fld F b j = fld Fo b j) ∧ EF tag F Fo) → fld F p0 0 = .ref x0 → fld F p0 1 = .ref x1 → fld F p0 2 = .ref x2 → fld F x0 0 = .ref x3 → fld F p0 3 = .int z56566 → lv_has ls 2 [(0, .ref p0), (1, .int p1)] → W p l e { frames := 3, cells := 0, slots := 0, locals := 62 } s m args below meth c H locs 0 0 Q (F0 m 40 ls []) := by
    intro z56566 F H locs ls rz56566 hT hfr pf0 pf1 pf2 pf3 qz56566 hl
    refine lv_aload_n hx hb dX3_sign_40 rfl (lv_at hl 0 rfl) ?_
    refine lv_iconst (v := 1) hx hb dX3_sign_41 (by decide) ?_
    refine lv_aload_n hx hb dX3_sign_42 rfl (lv_at hl 0 rfl) ?_
    refine t_get (C := RX3) (T := TX3) (N := 13) X hT m0 g0 rfl rfl 0 (by decide) qw_73 inlX3 rfl dX3_sign_43 (fun v56567 hv56567 ov56567 => ?_)
    obtain rfl : v56567 = .ref x0 := hv56567.symm.trans pf0
    refine t_get (C := RX8) (T := TX8) (N := 8) X hT mx0 gx0 rfl rfl 4 (by decide) qw_227 inlX8 rfl dX3_sign_46 (fun v56568 hv56568 ov56568 => ?_)
    obtain ⟨z56569, rfl, rz56569⟩ := okV_i ov56568
    refine t_cVv (n := 2) (C := RX3) (T := TX3) (N := 13) (As := [.int 1, .int z56569]) (rest := []) X hT (kt146_X3_fail l G tag L F hT.2.2.2 p0 1 z56569 m0 g0) m0 g0 rfl rfl qw_287 qw_288 qw_289 qw_28 qw_290 ⟨rfl, by decide +kernel, by decide +kernel, by decide +kernel⟩ ⟨Nat.le_of_ble_eq_true rfl, Nat.le_of_ble_eq_true rfl⟩ hl rfl rfl (Nat.le_of_ble_eq_true rfl) dX3_sign_49 ⟨Nat.le_of_ble_eq_true rfl, Nat.le_of_ble_eq_true rfl⟩ (fun F H locs hT hz56570 => ?_)
    have yz56570 := hz56570
    have pf0 := (yz56570.1 _ 0 (Or.inr (by decide)) (Or.inr (by decide))).trans pf0
    have pf1 := (yz56570.1 _ 1 (Or.inr (by decide)) (Or.inr (by decide))).trans pf1
    have pf2 := (yz56570.1 _ 2 (Or.inr (by decide)) (Or.inr (by decide))).trans pf2
    have pf3 := (yz56570.1 _ 0 (Or.inr (by decide)) (Or.inr (by decide))).trans pf3
    have hv56568 := (yz56570.1 _ 4 (Or.inr (by decide)) (Or.inl (by rw [gx0]; decide))).trans hv56568
    have hfr : (∀ b j : Nat, (tag b ≠ 24 ∨ j ≠ 2) → (tag b ≠ 24 ∨ j ≠ 3) → (tag b ≠ 24 ∨ j ≠ 4) → (tag b ≠ 24 ∨ j ≠ 5) → (tag b ≠ 24 ∨ j ≠ 6) → (tag b ≠ 24 ∨ j ≠ 7) → (tag b ≠ 25 ∨ j ≠ 3) → (tag b ≠ 25 ∨ j ≠ 4) → fld F b j = fld Fo b j) ∧ EF tag F Fo := ⟨fun b j n24_2 n24_3 n24_4 n24_5 n24_6 n24_7 n25_3 n25_4 => (yz56570.1 b j n25_3 n25_4).trans (hfr.1 b j n24_2 n24_3 n24_4 n24_5 n24_6 n24_7 n25_3 n25_4), fun b j hb => (yz56570.2 b j hb).trans (hfr.2 b j hb)⟩
    exact t_vret hQ X hT hfr (Nat.le_of_ble_eq_true rfl) (Nat.le_of_ble_eq_true rfl) dX3_sign_52
  refine lv_aload_n hx hb dX3_sign_0 rfl (lv_at hl 0 rfl) ?_
  refine t_get (C := RX3) (T := TX3) (N := 13) X hT m0 g0 rfl rfl 3 (by decide) qw_163 inlX3 rfl dX3_sign_1 (fun v56571 hv56571 ov56571 => ?_)
  obtain ⟨z56572, rfl, rz56572⟩ := okV_i ov56571
  refine lv_if_eq (tgt := 8) hx hb dX3_sign_4 (by decide) (fun c56573 => ?_) (fun c56573 => ?_)
  · have w56574 := cv_eq (rfl : z56572.toInt = z56572.toInt) (by decide : (0 : Int32).toInt = 0) c56573
    refine lv_aload_n hx hb dX3_sign_8 rfl (lv_at hl 0 rfl) ?_
    refine t_get (C := RX3) (T := TX3) (N := 13) X hT m0 g0 rfl rfl 0 (by decide) qw_73 inlX3 rfl dX3_sign_9 (fun v56575 hv56575 ov56575 => ?_)
    obtain rfl : v56575 = .ref x0 := hv56575.symm.trans pf0
    refine t_get (C := RX8) (T := TX8) (N := 8) X hT mx0 gx0 rfl rfl 3 (by decide) qw_170 inlX8 rfl dX3_sign_12 (fun v56576 hv56576 ov56576 => ?_)
    obtain ⟨z56577, rfl, rz56577⟩ := okV_i ov56576
    refine lv_iconst (v := 3) hx hb dX3_sign_15 (by decide) ?_
    refine lv_icmp_ne (tgt := 40) hx hb dX3_sign_16 (by decide) (fun c56578 => ?_) (fun c56578 => ?_)
    · have w56579 := cv_ne (rfl : z56577.toInt = z56577.toInt) (by decide : (3 : Int32).toInt = 3) c56578
      exact K40 z56572 _ _ _ _ (by omega) hT hfr pf0 pf1 pf2 pf3 hv56571 (lv_sub hl [0, 1] rfl)
    · have w56580 := cv_eq (rfl : z56577.toInt = z56577.toInt) (by decide : (3 : Int32).toInt = 3) c56578
      refine lv_aload_n hx hb dX3_sign_19 rfl (lv_at hl 0 rfl) ?_
      refine t_get (C := RX3) (T := TX3) (N := 13) X hT m0 g0 rfl rfl 0 (by decide) qw_73 inlX3 rfl dX3_sign_20 (fun v56581 hv56581 ov56581 => ?_)
      obtain rfl : v56581 = .ref x0 := hv56581.symm.trans pf0
      refine t_get (C := RX8) (T := TX8) (N := 8) X hT mx0 gx0 rfl rfl 6 (by decide) qw_322 inlX8 rfl dX3_sign_23 (fun v56582 hv56582 ov56582 => ?_)
      obtain ⟨z56583, rfl, rz56583⟩ := okV_i ov56582
      refine lv_iload_n hx hb dX3_sign_26 rfl (lv_at hl 1 rfl) ?_
      refine lv_icmp_ne (tgt := 40) hx hb dX3_sign_27 (by decide) (fun c56584 => ?_) (fun c56584 => ?_)
      · have w56585 := cv_ne (rfl : z56583.toInt = z56583.toInt) (rfl : p1.toInt = p1.toInt) c56584
        exact K40 z56572 _ _ _ _ (by omega) hT hfr pf0 pf1 pf2 pf3 hv56571 (lv_sub hl [0, 1] rfl)
      · have w56586 := cv_eq (rfl : z56583.toInt = z56583.toInt) (rfl : p1.toInt = p1.toInt) c56584
        refine lv_aload_n hx hb dX3_sign_30 rfl (lv_at hl 0 rfl) ?_
        refine t_get (C := RX3) (T := TX3) (N := 13) X hT m0 g0 rfl rfl 0 (by decide) qw_73 inlX3 rfl dX3_sign_31 (fun v56587 hv56587 ov56587 => ?_)
        obtain rfl : v56587 = .ref x0 := hv56587.symm.trans pf0
        refine t_cVv (n := 0) (C := RX8) (T := TX8) (N := 8) (As := []) (rest := []) X hT (kt98_X8_advance l G tag L F hT.2.2.2 x0 x3 mx0 gx0 mx3 gx3 pf3) mx0 gx0 rfl rfl qw_305 qw_197 qw_198 qw_72 qw_199 ⟨rfl, by decide +kernel, by decide +kernel, by decide +kernel⟩ ⟨Nat.le_of_ble_eq_true rfl, Nat.le_of_ble_eq_true rfl⟩ hl rfl rfl (Nat.le_of_ble_eq_true rfl) dX3_sign_34 ⟨Nat.le_of_ble_eq_true rfl, Nat.le_of_ble_eq_true rfl⟩ (fun F H locs hT hz56588 => ?_)
        have yz56588 := hz56588
        have pf0 := (yz56588.1 _ 0 (Or.inr (by decide)) (Or.inr (by decide)) (Or.inr (by decide)) (Or.inr (by decide)) (Or.inr (by decide)) (Or.inr (by decide))).trans pf0
        have pf1 := (yz56588.1 _ 1 (Or.inr (by decide)) (Or.inr (by decide)) (Or.inr (by decide)) (Or.inr (by decide)) (Or.inr (by decide)) (Or.inr (by decide))).trans pf1
        have pf2 := (yz56588.1 _ 2 (Or.inl (by rw [g0]; decide)) (Or.inr (by decide)) (Or.inr (by decide)) (Or.inr (by decide)) (Or.inr (by decide)) (Or.inr (by decide))).trans pf2
        have pf3 := (yz56588.1 _ 0 (Or.inr (by decide)) (Or.inr (by decide)) (Or.inr (by decide)) (Or.inr (by decide)) (Or.inr (by decide)) (Or.inr (by decide))).trans pf3
        have hv56571 := (yz56588.1 _ 3 (Or.inr (by decide)) (Or.inl (by rw [g0]; decide)) (Or.inr (by decide)) (Or.inr (by decide)) (Or.inr (by decide)) (Or.inr (by decide))).trans hv56571
        have hfr : (∀ b j : Nat, (tag b ≠ 24 ∨ j ≠ 2) → (tag b ≠ 24 ∨ j ≠ 3) → (tag b ≠ 24 ∨ j ≠ 4) → (tag b ≠ 24 ∨ j ≠ 5) → (tag b ≠ 24 ∨ j ≠ 6) → (tag b ≠ 24 ∨ j ≠ 7) → (tag b ≠ 25 ∨ j ≠ 3) → (tag b ≠ 25 ∨ j ≠ 4) → fld F b j = fld Fo b j) ∧ EF tag F Fo := ⟨fun b j n24_2 n24_3 n24_4 n24_5 n24_6 n24_7 n25_3 n25_4 => (yz56588.1 b j n24_2 n24_3 n24_4 n24_5 n24_6 n24_7).trans (hfr.1 b j n24_2 n24_3 n24_4 n24_5 n24_6 n24_7 n25_3 n25_4), fun b j hb => (yz56588.2 b j hb).trans (hfr.2 b j hb)⟩
        refine lv_goto (tgt := 52) hx hb dX3_sign_37 (by decide) ?_
        exact t_vret hQ X hT hfr (Nat.le_of_ble_eq_true rfl) (Nat.le_of_ble_eq_true rfl) dX3_sign_52
  · have w56589 := cv_ne (rfl : z56572.toInt = z56572.toInt) (by decide : (0 : Int32).toInt = 0) c56573
    exact t_vret hQ X hT hfr (Nat.le_of_ble_eq_true rfl) (Nat.le_of_ble_eq_true rfl) dX3_sign_7
