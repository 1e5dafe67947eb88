set_option maxHeartbeats 4000000 in
set_option maxRecDepth 100000 in
theorem kt90_X11_house (l : Launch) (G : KG) (tag : Nat → Nat) (L : List Nat) (Fo : Nat → va_E) (ho : okT G ttC tag L Fo) (p0 : Nat) (p1 : Int32) (p2 : Int32) (m0 : p0 ∈ L) (g0 : tag p0 = 26) : TMi l yX11_house cX11_house 3 (some .int) { frames := 4, cells := 0, slots := 0, locals := 101 } G ttC tag L Fo [.ref p0, .int p1, .int p2] (fun r F1 => ((-2147483648) ≤ r.toInt ∧ r.toInt ≤ 2147483647) ∧ ((∀ b j : Nat, (tag b ≠ 26 ∨ j ≠ 13) → fld F1 b j = fld Fo b j) ∧ EF tag F1 Fo)) := by
  refine t_bodyi (y := yX11_house) (cd := cX11_house) (mL := 3) (rt := (some .int)) (rm := { frames := 4, cells := 0, slots := 0, locals := 101 }) (av := [.ref p0, .int p1, .int p2]) (by decide) (Nat.le_of_ble_eq_true rfl) ho ?_
  intro p e s m args below meth c ls A Q hQ X hT hl
  have hx := X.1.1
  have hb := X.1.2.1
  have hl : lv_has ls 3 [(0, .ref p0), (1, .int p1), (2, .int p2)] := hl
  have rp1 := rg_all p1
  have rp2 := rg_all p2
  obtain ⟨F, hFo⟩ : ∃ F : Nat → va_E, F = Fo := ⟨_, rfl⟩
  rw [← hFo] at hT
  have hfr : (∀ b j : Nat, (tag b ≠ 26 ∨ j ≠ 13) → fld F b j = fld Fo b j) ∧ EF tag F Fo := by
    rw [hFo]
    exact ⟨by intros; rfl, fun _ _ _ => rfl⟩
  have K165 : ∀ (z31721 : Int32) (b31722 : Nat) (F : Nat → va_E) (H : Heap) (locs : List Loc) (ls : Array Slot), (0 ≤ z31721.toInt ∧ z31721.toInt ≤ 1) → (b31722 ∈ L) → (tag b31722 = 26) → (0 ≤ p1.toInt ∧ p1.toInt ≤ 3) → (5 ≤ p2.toInt ∧ p2.toInt ≤ 5) → TH G ttC A s tag L F H locs → ((∀ b j : Nat, (tag b ≠ 26 ∨ j ≠ 13) → fld F b j = fld Fo b j) ∧ EF tag F Fo) → lv_has ls 3 [(0, .ref p0), (1, .int p1), (2, .int p2)] → W p l e { frames := 4, cells := 0, slots := 0, locals := 101 } s m args below meth c H locs 0 0 Q (F0 m 165 ls [.int z31721, .ref b31722]) := by
    intro z31721 b31722 F H locs ls rz31721 mb31722 gb31722 r9s31719 r9s31720 hT hfr hl
    refine t_cVi (n := 1) (C := RX11) (T := TX11) (N := 16) (As := [.int z31721]) (rest := []) X hT (kt56_X11_answer l G tag L F hT.2.2.2 b31722 z31721 mb31722 gb31722) mb31722 gb31722 rfl rfl qw_463 qw_464 qw_465 qw_2 qw_466 ⟨rfl, by decide +kernel, by decide +kernel, by decide +kernel⟩ ⟨Nat.le_of_ble_eq_true rfl, Nat.le_of_ble_eq_true rfl⟩ hl rfl rfl (Nat.le_of_ble_eq_true rfl) dX11_house_165 ⟨Nat.le_of_ble_eq_true rfl, Nat.le_of_ble_eq_true rfl⟩ (fun z31723 F H locs hT hz31723 => ?_)
    obtain ⟨hz31723, yz31723⟩ := hz31723
    have hfr : (∀ b j : Nat, (tag b ≠ 26 ∨ j ≠ 13) → fld F b j = fld Fo b j) ∧ EF tag F Fo := ⟨fun b j n26_13 => (yz31723.1 b j n26_13).trans (hfr.1 b j n26_13), fun b j hb => (yz31723.2 b j hb).trans (hfr.2 b j hb)⟩
    exact t_iret hQ X hT (⟨rg_all _, hfr⟩) (Nat.le_of_ble_eq_true rfl) (Nat.le_of_ble_eq_true rfl) dX11_house_168
  have K186 : ∀ (z31726 : Int32) (b31727 : Nat) (F : Nat → va_E) (H : Heap) (locs : List Loc) (ls : Array Slot), (0 ≤ z31726.toInt ∧ z31726.toInt ≤ 1) → (b31727 ∈ L) → (tag b31727 = 26) → (0 ≤ p1.toInt ∧ p1.toInt ≤ 3) → (6 ≤ p2.toInt ∧ p2.toInt ≤ 6) → TH G ttC A s tag L F H locs → ((∀ b j : Nat, (tag b ≠ 26 ∨ j ≠ 13) → fld F b j = fld Fo b j) ∧ EF tag F Fo) → lv_has ls 3 [(0, .ref p0), (1, .int p1), (2, .int p2)] → W p l e { frames := 4, cells := 0, slots := 0, locals := 101 } s m args below meth c H locs 0 0 Q (F0 m 186 ls [.int z31726, .ref b31727]) := by
    intro z31726 b31727 F H locs ls rz31726 mb31727 gb31727 r9s31724 r9s31725 hT hfr hl
    refine t_cVi (n := 1) (C := RX11) (T := TX11) (N := 16) (As := [.int z31726]) (rest := []) X hT (kt56_X11_answer l G tag L F hT.2.2.2 b31727 z31726 mb31727 gb31727) mb31727 gb31727 rfl rfl qw_463 qw_464 qw_465 qw_2 qw_466 ⟨rfl, by decide +kernel, by decide +kernel, by decide +kernel⟩ ⟨Nat.le_of_ble_eq_true rfl, Nat.le_of_ble_eq_true rfl⟩ hl rfl rfl (Nat.le_of_ble_eq_true rfl) dX11_house_186 ⟨Nat.le_of_ble_eq_true rfl, Nat.le_of_ble_eq_true rfl⟩ (fun z31728 F H locs hT hz31728 => ?_)
    obtain ⟨hz31728, yz31728⟩ := hz31728
    have hfr : (∀ b j : Nat, (tag b ≠ 26 ∨ j ≠ 13) → fld F b j = fld Fo b j) ∧ EF tag F Fo := ⟨fun b j n26_13 => (yz31728.1 b j n26_13).trans (hfr.1 b j n26_13), fun b j hb => (yz31728.2 b j hb).trans (hfr.2 b j hb)⟩
    exact t_iret hQ X hT (⟨rg_all _, hfr⟩) (Nat.le_of_ble_eq_true rfl) (Nat.le_of_ble_eq_true rfl) dX11_house_189
  refine lv_aload_n hx hb dX11_house_0 rfl (lv_at hl 0 rfl) ?_
  refine lv_iload_n hx hb dX11_house_1 rfl (lv_at hl 1 rfl) ?_
  refine t_cVi (n := 1) (C := RX11) (T := TX11) (N := 16) (As := [.int p1]) (rest := []) X hT (kt61_X11_isHouse l G tag L F hT.2.2.2 p0 p1 m0 g0) m0 g0 rfl rfl qw_770 qw_771 qw_772 qw_2 qw_773 ⟨rfl, by decide +kernel, by decide +kernel, by decide +kernel⟩ ⟨Nat.le_of_ble_eq_true rfl, Nat.le_of_ble_eq_true rfl⟩ hl rfl rfl (Nat.le_of_ble_eq_true rfl) dX11_house_2 ⟨Nat.le_of_ble_eq_true rfl, Nat.le_of_ble_eq_true rfl⟩ (fun z31729 F9 H locs hT hz31729 => ?_)
  obtain ⟨fz31729, hz31729⟩ := hz31729
  rw [fz31729] at hT
  obtain ⟨hz31729, iz31729⟩ := hz31729
  refine lv_if_ne (tgt := 14) hx hb dX11_house_5 (by decide) (fun c31730 => ?_) (fun c31730 => ?_)
  · have w31731 := cv_ne (rfl : z31729.toInt = z31729.toInt) (by decide : (0 : Int32).toInt = 0) c31730
    have w31732 := (fun h => (iz31729 h)) (by omega)
    refine lv_iload_n hx hb dX11_house_14 rfl (lv_at hl 2 rfl) ?_
    by_cases c31733 : p2 = 0
    · have w31734 := cv_eq (rfl : p2.toInt = p2.toInt) (by decide : (0 : Int32).toInt = 0) c31733
      refine lv_tableIn (off := 41) (tgt := 56) hx hb dX11_house_15 (by rw [c31733]; decide) (by rw [c31733]; decide) (by rw [c31733]; decide) (by decide) ?_
      refine lv_aload_n hx hb dX11_house_56 rfl (lv_at hl 0 rfl) ?_
      refine lv_aload_n hx hb dX11_house_57 rfl (lv_at hl 0 rfl) ?_
      refine t_get (C := RX11) (T := TX11) (N := 16) X hT m0 g0 rfl rfl 3 (by decide) qw_18 inlX11 rfl dX11_house_58 (fun v31735 hv31735 ov31735 => ?_)
      obtain ⟨b31736, rfl, mb31736, gb31736⟩ := okV_r ov31735
      have gb31736 : tag b31736 = 18 := tg_of gb31736
      refine t_get (C := RX1) (T := TX1) (N := 20) X hT mb31736 gb31736 rfl rfl 12 (by decide) qw_764 inlX1 rfl dX11_house_61 (fun v31737 hv31737 ov31737 => ?_)
      obtain ⟨b31738, rfl, mb31738, gb31738⟩ := okV_r ov31737
      have gb31738 : tag b31738 = 4 := tg_of gb31738
      refine lv_iload_n hx hb dX11_house_64 rfl (lv_at hl 1 rfl) ?_
      refine t_ild X hT mb31738 gb31738 rfl (by omega) dX11_house_65 (fun z31739 vz31739 rz31739 => ?_)
      have rz31739 : 0 ≤ z31739.toInt ∧ z31739.toInt ≤ 11 := rz31739
      refine lv_aload_n hx hb dX11_house_66 rfl (lv_at hl 0 rfl) ?_
      refine t_get (C := RX11) (T := TX11) (N := 16) X hT m0 g0 rfl rfl 3 (by decide) qw_18 inlX11 rfl dX11_house_67 (fun v31740 hv31740 ov31740 => ?_)
      obtain rfl : v31740 = .ref b31736 := hv31740.symm.trans hv31735
      refine t_get (C := RX1) (T := TX1) (N := 20) X hT mb31736 gb31736 rfl rfl 0 (by decide) qw_728 inlX1 rfl dX11_house_70 (fun v31741 hv31741 ov31741 => ?_)
      obtain ⟨z31742, rfl, rz31742⟩ := okV_i ov31741
      refine lv_imul hx hb dX11_house_73 ?_
      refine lv_topi (fun z31743 ez31743 => ?_)
      have rz31743 : 0 ≤ z31743.toInt ∧ z31743.toInt ≤ 132 := ar_mulb ez31743 (A := 11) (B := 12) (by omega) (by omega) (by decide) (by decide)
      refine lv_aload_n hx hb dX11_house_74 rfl (lv_at hl 0 rfl) ?_
      refine t_get (C := RX11) (T := TX11) (N := 16) X hT m0 g0 rfl rfl 3 (by decide) qw_18 inlX11 rfl dX11_house_75 (fun v31744 hv31744 ov31744 => ?_)
      obtain rfl : v31744 = .ref b31736 := hv31744.symm.trans hv31735
      refine t_get (C := RX1) (T := TX1) (N := 20) X hT mb31736 gb31736 rfl rfl 11 (by decide) qw_765 inlX1 rfl dX11_house_78 (fun v31745 hv31745 ov31745 => ?_)
      obtain ⟨b31746, rfl, mb31746, gb31746⟩ := okV_r ov31745
      have gb31746 : tag b31746 = 4 := tg_of gb31746
      refine lv_iload_n hx hb dX11_house_81 rfl (lv_at hl 1 rfl) ?_
      refine t_ild X hT mb31746 gb31746 rfl (by omega) dX11_house_82 (fun z31747 vz31747 rz31747 => ?_)
      have rz31747 : 0 ≤ z31747.toInt ∧ z31747.toInt ≤ 11 := rz31747
      refine lv_iadd hx hb dX11_house_83 ?_
      refine lv_topi (fun z31748 ez31748 => ?_)
      have hz31748 : z31748.toInt = z31743.toInt + z31747.toInt := ar_add ez31748 (rfl : z31743.toInt = z31743.toInt) (rfl : z31747.toInt = z31747.toInt) (by omega) (by omega)
      have rz31748 : 0 ≤ z31748.toInt ∧ z31748.toInt ≤ 143 := by omega
      refine t_cVi (n := 1) (C := RX11) (T := TX11) (N := 16) (As := [.int z31748]) (rest := []) X hT (kt56_X11_answer l G tag L F hT.2.2.2 p0 z31748 m0 g0) m0 g0 rfl rfl qw_463 qw_464 qw_465 qw_2 qw_466 ⟨rfl, by decide +kernel, by decide +kernel, by decide +kernel⟩ ⟨Nat.le_of_ble_eq_true rfl, Nat.le_of_ble_eq_true rfl⟩ hl rfl rfl (Nat.le_of_ble_eq_true rfl) dX11_house_84 ⟨Nat.le_of_ble_eq_true rfl, Nat.le_of_ble_eq_true rfl⟩ (fun z31749 F H locs hT hz31749 => ?_)
      obtain ⟨hz31749, yz31749⟩ := hz31749
      have hv31735 := (yz31749.1 _ 3 (Or.inr (by decide))).trans hv31735
      have hv31737 := (yz31749.1 _ 12 (Or.inr (by decide))).trans hv31737
      have hv31741 := (yz31749.1 _ 0 (Or.inr (by decide))).trans hv31741
      have hv31745 := (yz31749.1 _ 11 (Or.inr (by decide))).trans hv31745
      have hfr : (∀ b j : Nat, (tag b ≠ 26 ∨ j ≠ 13) → fld F b j = fld Fo b j) ∧ EF tag F Fo := ⟨fun b j n26_13 => (yz31749.1 b j n26_13).trans (hfr.1 b j n26_13), fun b j hb => (yz31749.2 b j hb).trans (hfr.2 b j hb)⟩
      exact t_iret hQ X hT (⟨rg_all _, hfr⟩) (Nat.le_of_ble_eq_true rfl) (Nat.le_of_ble_eq_true rfl) dX11_house_87
    have w31750 := cv_ne (rfl : p2.toInt = p2.toInt) (by decide : (0 : Int32).toInt = 0) c31733
    by_cases c31751 : p2 = 1
    · have w31752 := cv_eq (rfl : p2.toInt = p2.toInt) (by decide : (1 : Int32).toInt = 1) c31751
      refine lv_tableIn (off := 73) (tgt := 88) hx hb dX11_house_15 (by rw [c31751]; decide) (by rw [c31751]; decide) (by rw [c31751]; decide) (by decide) ?_
      refine lv_aload_n hx hb dX11_house_88 rfl (lv_at hl 0 rfl) ?_
      refine lv_aload_n hx hb dX11_house_89 rfl (lv_at hl 0 rfl) ?_
      refine t_get (C := RX11) (T := TX11) (N := 16) X hT m0 g0 rfl rfl 5 (by decide) qw_23 inlX11 rfl dX11_house_90 (fun v31753 hv31753 ov31753 => ?_)
      obtain ⟨b31754, rfl, mb31754, gb31754⟩ := okV_r ov31753
      have gb31754 : tag b31754 = 19 := tg_of gb31754
      refine t_get (C := RX7) (T := TX7) (N := 7) X hT mb31754 gb31754 rfl rfl 2 (by decide) qw_766 inlX7 rfl dX11_house_93 (fun v31755 hv31755 ov31755 => ?_)
      obtain ⟨b31756, rfl, mb31756, gb31756⟩ := okV_r ov31755
      have gb31756 : tag b31756 = 8 := tg_of gb31756
      refine lv_iload_n hx hb dX11_house_96 rfl (lv_at hl 1 rfl) ?_
      refine t_ild X hT mb31756 gb31756 rfl (by omega) dX11_house_97 (fun z31757 vz31757 rz31757 => ?_)
      have rz31757 : 0 ≤ z31757.toInt ∧ z31757.toInt ≤ 6 := rz31757
      refine t_cVi (n := 1) (C := RX11) (T := TX11) (N := 16) (As := [.int z31757]) (rest := []) X hT (kt56_X11_answer l G tag L F hT.2.2.2 p0 z31757 m0 g0) m0 g0 rfl rfl qw_463 qw_464 qw_465 qw_2 qw_466 ⟨rfl, by decide +kernel, by decide +kernel, by decide +kernel⟩ ⟨Nat.le_of_ble_eq_true rfl, Nat.le_of_ble_eq_true rfl⟩ hl rfl rfl (Nat.le_of_ble_eq_true rfl) dX11_house_98 ⟨Nat.le_of_ble_eq_true rfl, Nat.le_of_ble_eq_true rfl⟩ (fun z31758 F H locs hT hz31758 => ?_)
      obtain ⟨hz31758, yz31758⟩ := hz31758
      have hv31753 := (yz31758.1 _ 5 (Or.inr (by decide))).trans hv31753
      have hv31755 := (yz31758.1 _ 2 (Or.inr (by decide))).trans hv31755
      have hfr : (∀ b j : Nat, (tag b ≠ 26 ∨ j ≠ 13) → fld F b j = fld Fo b j) ∧ EF tag F Fo := ⟨fun b j n26_13 => (yz31758.1 b j n26_13).trans (hfr.1 b j n26_13), fun b j hb => (yz31758.2 b j hb).trans (hfr.2 b j hb)⟩
      exact t_iret hQ X hT (⟨rg_all _, hfr⟩) (Nat.le_of_ble_eq_true rfl) (Nat.le_of_ble_eq_true rfl) dX11_house_101
    have w31759 := cv_ne (rfl : p2.toInt = p2.toInt) (by decide : (1 : Int32).toInt = 1) c31751
    by_cases c31760 : p2 = 2
    · have w31761 := cv_eq (rfl : p2.toInt = p2.toInt) (by decide : (2 : Int32).toInt = 2) c31760
      refine lv_tableIn (off := 87) (tgt := 102) hx hb dX11_house_15 (by rw [c31760]; decide) (by rw [c31760]; decide) (by rw [c31760]; decide) (by decide) ?_
      refine lv_aload_n hx hb dX11_house_102 rfl (lv_at hl 0 rfl) ?_
      refine lv_aload_n hx hb dX11_house_103 rfl (lv_at hl 0 rfl) ?_
      refine t_get (C := RX11) (T := TX11) (N := 16) X hT m0 g0 rfl rfl 5 (by decide) qw_23 inlX11 rfl dX11_house_104 (fun v31762 hv31762 ov31762 => ?_)
      obtain ⟨b31763, rfl, mb31763, gb31763⟩ := okV_r ov31762
      have gb31763 : tag b31763 = 19 := tg_of gb31763
      refine t_get (C := RX7) (T := TX7) (N := 7) X hT mb31763 gb31763 rfl rfl 3 (by decide) qw_767 inlX7 rfl dX11_house_107 (fun v31764 hv31764 ov31764 => ?_)
      obtain ⟨b31765, rfl, mb31765, gb31765⟩ := okV_r ov31764
      have gb31765 : tag b31765 = 5 := tg_of gb31765
      refine lv_iload_n hx hb dX11_house_110 rfl (lv_at hl 1 rfl) ?_
      refine t_ild X hT mb31765 gb31765 rfl (by omega) dX11_house_111 (fun z31766 vz31766 rz31766 => ?_)
      have rz31766 : (-2147483648) ≤ z31766.toInt ∧ z31766.toInt ≤ 2147483647 := rz31766
      refine t_cVi (n := 1) (C := RX11) (T := TX11) (N := 16) (As := [.int z31766]) (rest := []) X hT (kt56_X11_answer l G tag L F hT.2.2.2 p0 z31766 m0 g0) m0 g0 rfl rfl qw_463 qw_464 qw_465 qw_2 qw_466 ⟨rfl, by decide +kernel, by decide +kernel, by decide +kernel⟩ ⟨Nat.le_of_ble_eq_true rfl, Nat.le_of_ble_eq_true rfl⟩ hl rfl rfl (Nat.le_of_ble_eq_true rfl) dX11_house_112 ⟨Nat.le_of_ble_eq_true rfl, Nat.le_of_ble_eq_true rfl⟩ (fun z31767 F H locs hT hz31767 => ?_)
      obtain ⟨hz31767, yz31767⟩ := hz31767
      have hv31762 := (yz31767.1 _ 5 (Or.inr (by decide))).trans hv31762
      have hv31764 := (yz31767.1 _ 3 (Or.inr (by decide))).trans hv31764
      have hfr : (∀ b j : Nat, (tag b ≠ 26 ∨ j ≠ 13) → fld F b j = fld Fo b j) ∧ EF tag F Fo := ⟨fun b j n26_13 => (yz31767.1 b j n26_13).trans (hfr.1 b j n26_13), fun b j hb => (yz31767.2 b j hb).trans (hfr.2 b j hb)⟩
      exact t_iret hQ X hT (⟨rg_all _, hfr⟩) (Nat.le_of_ble_eq_true rfl) (Nat.le_of_ble_eq_true rfl) dX11_house_115
    have w31768 := cv_ne (rfl : p2.toInt = p2.toInt) (by decide : (2 : Int32).toInt = 2) c31760
    by_cases c31769 : p2 = 3
    · have w31770 := cv_eq (rfl : p2.toInt = p2.toInt) (by decide : (3 : Int32).toInt = 3) c31769
      refine lv_tableIn (off := 101) (tgt := 116) hx hb dX11_house_15 (by rw [c31769]; decide) (by rw [c31769]; decide) (by rw [c31769]; decide) (by decide) ?_
      refine lv_aload_n hx hb dX11_house_116 rfl (lv_at hl 0 rfl) ?_
      refine lv_aload_n hx hb dX11_house_117 rfl (lv_at hl 0 rfl) ?_
      refine t_get (C := RX11) (T := TX11) (N := 16) X hT m0 g0 rfl rfl 5 (by decide) qw_23 inlX11 rfl dX11_house_118 (fun v31771 hv31771 ov31771 => ?_)
      obtain ⟨b31772, rfl, mb31772, gb31772⟩ := okV_r ov31771
      have gb31772 : tag b31772 = 19 := tg_of gb31772
      refine t_get (C := RX7) (T := TX7) (N := 7) X hT mb31772 gb31772 rfl rfl 4 (by decide) qw_768 inlX7 rfl dX11_house_121 (fun v31773 hv31773 ov31773 => ?_)
      obtain ⟨b31774, rfl, mb31774, gb31774⟩ := okV_r ov31773
      have gb31774 : tag b31774 = 5 := tg_of gb31774
      refine lv_iload_n hx hb dX11_house_124 rfl (lv_at hl 1 rfl) ?_
      refine t_ild X hT mb31774 gb31774 rfl (by omega) dX11_house_125 (fun z31775 vz31775 rz31775 => ?_)
      have rz31775 : (-2147483648) ≤ z31775.toInt ∧ z31775.toInt ≤ 2147483647 := rz31775
      refine t_cVi (n := 1) (C := RX11) (T := TX11) (N := 16) (As := [.int z31775]) (rest := []) X hT (kt56_X11_answer l G tag L F hT.2.2.2 p0 z31775 m0 g0) m0 g0 rfl rfl qw_463 qw_464 qw_465 qw_2 qw_466 ⟨rfl, by decide +kernel, by decide +kernel, by decide +kernel⟩ ⟨Nat.le_of_ble_eq_true rfl, Nat.le_of_ble_eq_true rfl⟩ hl rfl rfl (Nat.le_of_ble_eq_true rfl) dX11_house_126 ⟨Nat.le_of_ble_eq_true rfl, Nat.le_of_ble_eq_true rfl⟩ (fun z31776 F H locs hT hz31776 => ?_)
      obtain ⟨hz31776, yz31776⟩ := hz31776
      have hv31771 := (yz31776.1 _ 5 (Or.inr (by decide))).trans hv31771
      have hv31773 := (yz31776.1 _ 4 (Or.inr (by decide))).trans hv31773
      have hfr : (∀ b j : Nat, (tag b ≠ 26 ∨ j ≠ 13) → fld F b j = fld Fo b j) ∧ EF tag F Fo := ⟨fun b j n26_13 => (yz31776.1 b j n26_13).trans (hfr.1 b j n26_13), fun b j hb => (yz31776.2 b j hb).trans (hfr.2 b j hb)⟩
      exact t_iret hQ X hT (⟨rg_all _, hfr⟩) (Nat.le_of_ble_eq_true rfl) (Nat.le_of_ble_eq_true rfl) dX11_house_129
    have w31777 := cv_ne (rfl : p2.toInt = p2.toInt) (by decide : (3 : Int32).toInt = 3) c31769
    by_cases c31778 : p2 = 4
    · have w31779 := cv_eq (rfl : p2.toInt = p2.toInt) (by decide : (4 : Int32).toInt = 4) c31778
      refine lv_tableIn (off := 115) (tgt := 130) hx hb dX11_house_15 (by rw [c31778]; decide) (by rw [c31778]; decide) (by rw [c31778]; decide) (by decide) ?_
      refine lv_aload_n hx hb dX11_house_130 rfl (lv_at hl 0 rfl) ?_
      refine lv_aload_n hx hb dX11_house_131 rfl (lv_at hl 0 rfl) ?_
      refine t_get (C := RX11) (T := TX11) (N := 16) X hT m0 g0 rfl rfl 3 (by decide) qw_18 inlX11 rfl dX11_house_132 (fun v31780 hv31780 ov31780 => ?_)
      obtain ⟨b31781, rfl, mb31781, gb31781⟩ := okV_r ov31780
      have gb31781 : tag b31781 = 18 := tg_of gb31781
      refine t_get (C := RX1) (T := TX1) (N := 20) X hT mb31781 gb31781 rfl rfl 13 (by decide) qw_769 inlX1 rfl dX11_house_135 (fun v31782 hv31782 ov31782 => ?_)
      obtain ⟨b31783, rfl, mb31783, gb31783⟩ := okV_r ov31782
      have gb31783 : tag b31783 = 5 := tg_of gb31783
      refine lv_iload_n hx hb dX11_house_138 rfl (lv_at hl 1 rfl) ?_
      refine t_ild X hT mb31783 gb31783 rfl (by omega) dX11_house_139 (fun z31784 vz31784 rz31784 => ?_)
      have rz31784 : (-2147483648) ≤ z31784.toInt ∧ z31784.toInt ≤ 2147483647 := rz31784
      refine t_cVi (n := 1) (C := RX11) (T := TX11) (N := 16) (As := [.int z31784]) (rest := []) X hT (kt56_X11_answer l G tag L F hT.2.2.2 p0 z31784 m0 g0) m0 g0 rfl rfl qw_463 qw_464 qw_465 qw_2 qw_466 ⟨rfl, by decide +kernel, by decide +kernel, by decide +kernel⟩ ⟨Nat.le_of_ble_eq_true rfl, Nat.le_of_ble_eq_true rfl⟩ hl rfl rfl (Nat.le_of_ble_eq_true rfl) dX11_house_140 ⟨Nat.le_of_ble_eq_true rfl, Nat.le_of_ble_eq_true rfl⟩ (fun z31785 F H locs hT hz31785 => ?_)
      obtain ⟨hz31785, yz31785⟩ := hz31785
      have hv31780 := (yz31785.1 _ 3 (Or.inr (by decide))).trans hv31780
      have hv31782 := (yz31785.1 _ 13 (Or.inl (by rw [gb31781]; decide))).trans hv31782
      have hfr : (∀ b j : Nat, (tag b ≠ 26 ∨ j ≠ 13) → fld F b j = fld Fo b j) ∧ EF tag F Fo := ⟨fun b j n26_13 => (yz31785.1 b j n26_13).trans (hfr.1 b j n26_13), fun b j hb => (yz31785.2 b j hb).trans (hfr.2 b j hb)⟩
      exact t_iret hQ X hT (⟨rg_all _, hfr⟩) (Nat.le_of_ble_eq_true rfl) (Nat.le_of_ble_eq_true rfl) dX11_house_143
    have w31786 := cv_ne (rfl : p2.toInt = p2.toInt) (by decide : (4 : Int32).toInt = 4) c31778
    by_cases c31787 : p2 = 5
    · have w31788 := cv_eq (rfl : p2.toInt = p2.toInt) (by decide : (5 : Int32).toInt = 5) c31787
      refine lv_tableIn (off := 129) (tgt := 144) hx hb dX11_house_15 (by rw [c31787]; decide) (by rw [c31787]; decide) (by rw [c31787]; decide) (by decide) ?_
      refine lv_aload_n hx hb dX11_house_144 rfl (lv_at hl 0 rfl) ?_
      refine lv_aload_n hx hb dX11_house_145 rfl (lv_at hl 0 rfl) ?_
      refine t_get (C := RX11) (T := TX11) (N := 16) X hT m0 g0 rfl rfl 3 (by decide) qw_18 inlX11 rfl dX11_house_146 (fun v31789 hv31789 ov31789 => ?_)
      obtain ⟨b31790, rfl, mb31790, gb31790⟩ := okV_r ov31789
      have gb31790 : tag b31790 = 18 := tg_of gb31790
      refine lv_aload_n hx hb dX11_house_149 rfl (lv_at hl 0 rfl) ?_
      refine t_get (C := RX11) (T := TX11) (N := 16) X hT m0 g0 rfl rfl 5 (by decide) qw_23 inlX11 rfl dX11_house_150 (fun v31791 hv31791 ov31791 => ?_)
      obtain ⟨b31792, rfl, mb31792, gb31792⟩ := okV_r ov31791
      have gb31792 : tag b31792 = 19 := tg_of gb31792
      refine lv_iload_n hx hb dX11_house_153 rfl (lv_at hl 1 rfl) ?_
      refine t_cSi (n := 3) (As := [.ref b31790, .ref b31792, .int p1]) (rest := [.ref p0]) X hT (kt89_X6_isShut l G tag L F hT.2.2.2 b31790 b31792 p1 mb31790 gb31790 mb31792 gb31792 (by omega)) qw_774 qw_775 qw_380 qw_776 ⟨by decide +kernel, by decide +kernel, by decide +kernel⟩ ⟨Nat.le_of_ble_eq_true rfl, Nat.le_of_ble_eq_true rfl⟩ hl rfl rfl (Nat.le_of_ble_eq_true rfl) dX11_house_154 ⟨Nat.le_of_ble_eq_true rfl, Nat.le_of_ble_eq_true rfl⟩ (fun z31793 F9 H locs hT hz31793 => ?_)
      obtain ⟨fz31793, hz31793⟩ := hz31793
      rw [fz31793] at hT
      refine lv_if_eq (tgt := 164) hx hb dX11_house_157 (by decide) (fun c31794 => ?_) (fun c31794 => ?_)
      · have w31795 := cv_eq (rfl : z31793.toInt = z31793.toInt) (by decide : (0 : Int32).toInt = 0) c31794
        refine lv_iconst (v := 0) hx hb dX11_house_164 (by decide) ?_
        exact K165 0 p0 _ _ _ _ (by decide) m0 g0 (by omega) (by omega) hT hfr  (lv_sub hl [0, 1, 2] rfl)
      · have w31796 := cv_ne (rfl : z31793.toInt = z31793.toInt) (by decide : (0 : Int32).toInt = 0) c31794
        refine lv_iconst (v := 1) hx hb dX11_house_160 (by decide) ?_
        refine lv_goto (tgt := 165) hx hb dX11_house_161 (by decide) ?_
        exact K165 1 p0 _ _ _ _ (by decide) m0 g0 (by omega) (by omega) hT hfr  (lv_sub hl [0, 1, 2] rfl)
    have w31797 := cv_ne (rfl : p2.toInt = p2.toInt) (by decide : (5 : Int32).toInt = 5) c31787
    by_cases c31798 : p2 = 6
    · have w31799 := cv_eq (rfl : p2.toInt = p2.toInt) (by decide : (6 : Int32).toInt = 6) c31798
      refine lv_tableIn (off := 154) (tgt := 169) hx hb dX11_house_15 (by rw [c31798]; decide) (by rw [c31798]; decide) (by rw [c31798]; decide) (by decide) ?_
      refine lv_aload_n hx hb dX11_house_169 rfl (lv_at hl 0 rfl) ?_
      refine lv_aload_n hx hb dX11_house_170 rfl (lv_at hl 0 rfl) ?_
      refine t_get (C := RX11) (T := TX11) (N := 16) X hT m0 g0 rfl rfl 5 (by decide) qw_23 inlX11 rfl dX11_house_171 (fun v31800 hv31800 ov31800 => ?_)
      obtain ⟨b31801, rfl, mb31801, gb31801⟩ := okV_r ov31800
      have gb31801 : tag b31801 = 19 := tg_of gb31801
      refine lv_iload_n hx hb dX11_house_174 rfl (lv_at hl 1 rfl) ?_
      refine t_cVi (n := 1) (C := RX7) (T := TX7) (N := 7) (As := [.int p1]) (rest := [.ref p0]) X hT (kt20_X7_isCrowded l G tag L F hT.2.2.2 b31801 p1 mb31801 gb31801 (by omega)) mb31801 gb31801 rfl rfl qw_788 qw_789 qw_790 qw_22 qw_791 ⟨rfl, by decide +kernel, by decide +kernel, by decide +kernel⟩ ⟨Nat.le_of_ble_eq_true rfl, Nat.le_of_ble_eq_true rfl⟩ hl rfl rfl (Nat.le_of_ble_eq_true rfl) dX11_house_175 ⟨Nat.le_of_ble_eq_true rfl, Nat.le_of_ble_eq_true rfl⟩ (fun z31802 F9 H locs hT hz31802 => ?_)
      obtain ⟨fz31802, hz31802⟩ := hz31802
      rw [fz31802] at hT
      refine lv_if_eq (tgt := 185) hx hb dX11_house_178 (by decide) (fun c31803 => ?_) (fun c31803 => ?_)
      · have w31804 := cv_eq (rfl : z31802.toInt = z31802.toInt) (by decide : (0 : Int32).toInt = 0) c31803
        refine lv_iconst (v := 0) hx hb dX11_house_185 (by decide) ?_
        exact K186 0 p0 _ _ _ _ (by decide) m0 g0 (by omega) (by omega) hT hfr  (lv_sub hl [0, 1, 2] rfl)
      · have w31805 := cv_ne (rfl : z31802.toInt = z31802.toInt) (by decide : (0 : Int32).toInt = 0) c31803
        refine lv_iconst (v := 1) hx hb dX11_house_181 (by decide) ?_
        refine lv_goto (tgt := 186) hx hb dX11_house_182 (by decide) ?_
        exact K186 1 p0 _ _ _ _ (by decide) m0 g0 (by omega) (by omega) hT hfr  (lv_sub hl [0, 1, 2] rfl)
    have w31806 := cv_ne (rfl : p2.toInt = p2.toInt) (by decide : (6 : Int32).toInt = 6) c31798
    refine lv_tableOut (tgt := 190) hx hb dX11_house_15 (by omega) (by decide) ?_
    refine lv_aload_n hx hb dX11_house_190 rfl (lv_at hl 0 rfl) ?_
    refine lv_iconst (v := 1) hx hb dX11_house_191 (by decide) ?_
    refine t_cVi (n := 1) (C := RX11) (T := TX11) (N := 16) (As := [.int 1]) (rest := []) X hT (kt63_X11_refuse l G tag L F hT.2.2.2 p0 1 m0 g0) m0 g0 rfl rfl qw_152 qw_153 qw_154 qw_2 qw_155 ⟨rfl, by decide +kernel, by decide +kernel, by decide +kernel⟩ ⟨Nat.le_of_ble_eq_true rfl, Nat.le_of_ble_eq_true rfl⟩ hl rfl rfl (Nat.le_of_ble_eq_true rfl) dX11_house_192 ⟨Nat.le_of_ble_eq_true rfl, Nat.le_of_ble_eq_true rfl⟩ (fun z31807 F H locs hT hz31807 => ?_)
    obtain ⟨hz31807, yz31807⟩ := hz31807
    have hfr : (∀ b j : Nat, (tag b ≠ 26 ∨ j ≠ 13) → fld F b j = fld Fo b j) ∧ EF tag F Fo := ⟨fun b j n26_13 => (yz31807.1 b j n26_13).trans (hfr.1 b j n26_13), fun b j hb => (yz31807.2 b j hb).trans (hfr.2 b j hb)⟩
    exact t_iret hQ X hT (⟨rg_all _, hfr⟩) (Nat.le_of_ble_eq_true rfl) (Nat.le_of_ble_eq_true rfl) dX11_house_195
  · have w31808 := cv_eq (rfl : z31729.toInt = z31729.toInt) (by decide : (0 : Int32).toInt = 0) c31730
    refine lv_aload_n hx hb dX11_house_8 rfl (lv_at hl 0 rfl) ?_
    refine lv_iconst (v := 1) hx hb dX11_house_9 (by decide) ?_
    refine t_cVi (n := 1) (C := RX11) (T := TX11) (N := 16) (As := [.int 1]) (rest := []) X hT (kt63_X11_refuse l G tag L F hT.2.2.2 p0 1 m0 g0) m0 g0 rfl rfl qw_152 qw_153 qw_154 qw_2 qw_155 ⟨rfl, by decide +kernel, by decide +kernel, by decide +kernel⟩ ⟨Nat.le_of_ble_eq_true rfl, Nat.le_of_ble_eq_true rfl⟩ hl rfl rfl (Nat.le_of_ble_eq_true rfl) dX11_house_10 ⟨Nat.le_of_ble_eq_true rfl, Nat.le_of_ble_eq_true rfl⟩ (fun z31809 F H locs hT hz31809 => ?_)
    obtain ⟨hz31809, yz31809⟩ := hz31809
    have hfr : (∀ b j : Nat, (tag b ≠ 26 ∨ j ≠ 13) → fld F b j = fld Fo b j) ∧ EF tag F Fo := ⟨fun b j n26_13 => (yz31809.1 b j n26_13).trans (hfr.1 b j n26_13), fun b j hb => (yz31809.2 b j hb).trans (hfr.2 b j hb)⟩
    exact t_iret hQ X hT (⟨rg_all _, hfr⟩) (Nat.le_of_ble_eq_true rfl) (Nat.le_of_ble_eq_true rfl) dX11_house_13
set_option maxHeartbeats 4000000 in
set_option maxRecDepth 100000 in
theorem kt91_X11_in (l : Launch) (G : KG) (tag : Nat → Nat) (L : List Nat) (Fo : Nat → va_E) (ho : okT G ttC tag L Fo) (p0 : Nat) (p1 : Int32) (p2 : Int32) (p3 : Int32) (m0 : p0 ∈ L) (g0 : tag p0 = 26) : TMi l yX11_in cX11_in 4 (some .int) { frames := 7, cells := 0, slots := 0, locals := 179 } G ttC tag L Fo [.ref p0, .int p1, .int p2, .int p3] (fun r F1 => ((-2147483648) ≤ r.toInt ∧ r.toInt ≤ 2147483647) ∧ ((∀ b j : Nat, (tag b ≠ 19 ∨ j ≠ 0) → (tag b ≠ 19 ∨ j ≠ 1) → (tag b ≠ 26 ∨ j ≠ 13) → fld F1 b j = fld Fo b j) ∧ EF tag F1 Fo)) := by
  refine t_bodyi (y := yX11_in) (cd := cX11_in) (mL := 4) (rt := (some .int)) (rm := { frames := 7, cells := 0, slots := 0, locals := 179 }) (av := [.ref p0, .int p1, .int p2, .int p3]) (by decide) (Nat.le_of_ble_eq_true rfl) ho ?_
  intro p e s m args below meth c ls A Q hQ X hT hl
  have hx := X.1.1
  have hb := X.1.2.1
  have hl : lv_has ls 4 [(0, .ref p0), (1, .int p1), (2, .int p2), (3, .int p3)] := hl
  have rp1 := rg_all p1
  have rp2 := rg_all p2
  have rp3 := rg_all p3
  obtain ⟨F, hFo⟩ : ∃ F : Nat → va_E, F = Fo := ⟨_, rfl⟩
  rw [← hFo] at hT
  have hfr : (∀ b j : Nat, (tag b ≠ 19 ∨ j ≠ 0) → (tag b ≠ 19 ∨ j ≠ 1) → (tag b ≠ 26 ∨ j ≠ 13) → fld F b j = fld Fo b j) ∧ EF tag F Fo := by
    rw [hFo]
    exact ⟨by intros; rfl, fun _ _ _ => rfl⟩
  have K17 : ∀  (F : Nat → va_E) (H : Heap) (locs : List Loc) (ls : Array Slot), TH G ttC A s tag L F H locs → ((∀ b j : Nat, (tag b ≠ 19 ∨ j ≠ 0) → (tag b ≠ 19 ∨ j ≠ 1) → (tag b ≠ 26 ∨ j ≠ 13) → fld F b j = fld Fo b j) ∧ EF tag F Fo) → lv_has ls 4 [(0, .ref p0), (1, .int p1), (2, .int p2), (3, .int p3)] → W p l e { frames := 7, cells := 0, slots := 0, locals := 179 } s m args below meth c H locs 0 0 Q (F0 m 17 ls []) := by
    intro F H locs ls hT hfr hl
    refine lv_aload_n hx hb dX11_in_17 rfl (lv_at hl 0 rfl) ?_
    refine lv_iconst (v := 1) hx hb dX11_in_18 (by decide) ?_
    refine t_cVi (n := 1) (C := RX11) (T := TX11) (N := 16) (As := [.int 1]) (rest := []) X hT (kt63_X11_refuse l G tag L F hT.2.2.2 p0 1 m0 g0) m0 g0 rfl rfl qw_152 qw_153 qw_154 qw_2 qw_155 ⟨rfl, by decide +kernel, by decide +kernel, by decide +kernel⟩ ⟨Nat.le_of_ble_eq_true rfl, Nat.le_of_ble_eq_true rfl⟩ hl rfl rfl (Nat.le_of_ble_eq_true rfl) dX11_in_19 ⟨Nat.le_of_ble_eq_true rfl, Nat.le_of_ble_eq_true rfl⟩ (fun z32547 F H locs hT hz32547 => ?_)
    obtain ⟨hz32547, yz32547⟩ := hz32547
    have hfr : (∀ b j : Nat, (tag b ≠ 19 ∨ j ≠ 0) → (tag b ≠ 19 ∨ j ≠ 1) → (tag b ≠ 26 ∨ j ≠ 13) → fld F b j = fld Fo b j) ∧ EF tag F Fo := ⟨fun b j n19_0 n19_1 n26_13 => (yz32547.1 b j n26_13).trans (hfr.1 b j n19_0 n19_1 n26_13), fun b j hb => (yz32547.2 b j hb).trans (hfr.2 b j hb)⟩
    exact t_iret hQ X hT (⟨rg_all _, hfr⟩) (Nat.le_of_ble_eq_true rfl) (Nat.le_of_ble_eq_true rfl) dX11_in_22
  have K33 : ∀  (F : Nat → va_E) (H : Heap) (locs : List Loc) (ls : Array Slot), (0 ≤ p1.toInt ∧ p1.toInt ≤ 3) → (0 ≤ p3.toInt ∧ p3.toInt ≤ 4) → TH G ttC A s tag L F H locs → ((∀ b j : Nat, (tag b ≠ 19 ∨ j ≠ 0) → (tag b ≠ 19 ∨ j ≠ 1) → (tag b ≠ 26 ∨ j ≠ 13) → fld F b j = fld Fo b j) ∧ EF tag F Fo) → lv_has ls 4 [(0, .ref p0), (1, .int p1), (2, .int p2), (3, .int p3)] → W p l e { frames := 7, cells := 0, slots := 0, locals := 179 } s m args below meth c H locs 0 0 Q (F0 m 33 ls []) := by
    intro F H locs ls r9s32548 r9s32549 hT hfr hl
    refine lv_aload_n hx hb dX11_in_33 rfl (lv_at hl 0 rfl) ?_
    refine lv_iconst (v := 2) hx hb dX11_in_34 (by decide) ?_
    refine t_cVi (n := 1) (C := RX11) (T := TX11) (N := 16) (As := [.int 2]) (rest := []) X hT (kt63_X11_refuse l G tag L F hT.2.2.2 p0 2 m0 g0) m0 g0 rfl rfl qw_152 qw_153 qw_154 qw_2 qw_155 ⟨rfl, by decide +kernel, by decide +kernel, by decide +kernel⟩ ⟨Nat.le_of_ble_eq_true rfl, Nat.le_of_ble_eq_true rfl⟩ hl rfl rfl (Nat.le_of_ble_eq_true rfl) dX11_in_35 ⟨Nat.le_of_ble_eq_true rfl, Nat.le_of_ble_eq_true rfl⟩ (fun z32550 F H locs hT hz32550 => ?_)
    obtain ⟨hz32550, yz32550⟩ := hz32550
    have hfr : (∀ b j : Nat, (tag b ≠ 19 ∨ j ≠ 0) → (tag b ≠ 19 ∨ j ≠ 1) → (tag b ≠ 26 ∨ j ≠ 13) → fld F b j = fld Fo b j) ∧ EF tag F Fo := ⟨fun b j n19_0 n19_1 n26_13 => (yz32550.1 b j n26_13).trans (hfr.1 b j n19_0 n19_1 n26_13), fun b j hb => (yz32550.2 b j hb).trans (hfr.2 b j hb)⟩
    exact t_iret hQ X hT (⟨rg_all _, hfr⟩) (Nat.le_of_ble_eq_true rfl) (Nat.le_of_ble_eq_true rfl) dX11_in_38
  have K152 : ∀ (z32554 : Int32) (b32555 : Nat) (F : Nat → va_E) (H : Heap) (locs : List Loc) (ls : Array Slot), (0 ≤ z32554.toInt ∧ z32554.toInt ≤ 1) → (b32555 ∈ L) → (tag b32555 = 26) → (0 ≤ p1.toInt ∧ p1.toInt ≤ 3) → (0 ≤ p2.toInt ∧ p2.toInt ≤ 60) → (4 ≤ p3.toInt ∧ p3.toInt ≤ 4) → TH G ttC A s tag L F H locs → ((∀ b j : Nat, (tag b ≠ 19 ∨ j ≠ 0) → (tag b ≠ 19 ∨ j ≠ 1) → (tag b ≠ 26 ∨ j ≠ 13) → fld F b j = fld Fo b j) ∧ EF tag F Fo) → lv_has ls 4 [(0, .ref p0), (1, .int p1), (2, .int p2), (3, .int p3)] → W p l e { frames := 7, cells := 0, slots := 0, locals := 179 } s m args below meth c H locs 0 0 Q (F0 m 152 ls [.int z32554, .ref b32555]) := by
    intro z32554 b32555 F H locs ls rz32554 mb32555 gb32555 r9s32551 r9s32552 r9s32553 hT hfr hl
    refine t_cVi (n := 1) (C := RX11) (T := TX11) (N := 16) (As := [.int z32554]) (rest := []) X hT (kt56_X11_answer l G tag L F hT.2.2.2 b32555 z32554 mb32555 gb32555) mb32555 gb32555 rfl rfl qw_463 qw_464 qw_465 qw_2 qw_466 ⟨rfl, by decide +kernel, by decide +kernel, by decide +kernel⟩ ⟨Nat.le_of_ble_eq_true rfl, Nat.le_of_ble_eq_true rfl⟩ hl rfl rfl (Nat.le_of_ble_eq_true rfl) dX11_in_152 ⟨Nat.le_of_ble_eq_true rfl, Nat.le_of_ble_eq_true rfl⟩ (fun z32556 F H locs hT hz32556 => ?_)
    obtain ⟨hz32556, yz32556⟩ := hz32556
    have hfr : (∀ b j : Nat, (tag b ≠ 19 ∨ j ≠ 0) → (tag b ≠ 19 ∨ j ≠ 1) → (tag b ≠ 26 ∨ j ≠ 13) → fld F b j = fld Fo b j) ∧ EF tag F Fo := ⟨fun b j n19_0 n19_1 n26_13 => (yz32556.1 b j n26_13).trans (hfr.1 b j n19_0 n19_1 n26_13), fun b j hb => (yz32556.2 b j hb).trans (hfr.2 b j hb)⟩
    exact t_iret hQ X hT (⟨rg_all _, hfr⟩) (Nat.le_of_ble_eq_true rfl) (Nat.le_of_ble_eq_true rfl) dX11_in_155
  refine lv_aload_n hx hb dX11_in_0 rfl (lv_at hl 0 rfl) ?_
  refine lv_iload_n hx hb dX11_in_1 rfl (lv_at hl 1 rfl) ?_
  refine t_cVi (n := 1) (C := RX11) (T := TX11) (N := 16) (As := [.int p1]) (rest := []) X hT (kt61_X11_isHouse l G tag L F hT.2.2.2 p0 p1 m0 g0) m0 g0 rfl rfl qw_770 qw_771 qw_772 qw_2 qw_773 ⟨rfl, by decide +kernel, by decide +kernel, by decide +kernel⟩ ⟨Nat.le_of_ble_eq_true rfl, Nat.le_of_ble_eq_true rfl⟩ hl rfl rfl (Nat.le_of_ble_eq_true rfl) dX11_in_2 ⟨Nat.le_of_ble_eq_true rfl, Nat.le_of_ble_eq_true rfl⟩ (fun z32557 F9 H locs hT hz32557 => ?_)
  obtain ⟨fz32557, hz32557⟩ := hz32557
  rw [fz32557] at hT
  obtain ⟨hz32557, iz32557⟩ := hz32557
  refine lv_if_eq (tgt := 17) hx hb dX11_in_5 (by decide) (fun c32558 => ?_) (fun c32558 => ?_)
  · have w32559 := cv_eq (rfl : z32557.toInt = z32557.toInt) (by decide : (0 : Int32).toInt = 0) c32558
    exact K17  _ _ _ _  hT hfr  (lv_sub hl [0, 1, 2, 3] rfl)
  · have w32560 := cv_ne (rfl : z32557.toInt = z32557.toInt) (by decide : (0 : Int32).toInt = 0) c32558
    have w32561 := (fun h => (iz32557 h)) (by omega)
    refine lv_iload_n hx hb dX11_in_8 rfl (lv_at hl 3 rfl) ?_
    refine lv_if_lt (tgt := 17) hx hb dX11_in_9 (by decide) (fun c32562 => ?_) (fun c32562 => ?_)
    · have w32563 := cv_lt (rfl : p3.toInt = p3.toInt) (by decide : (0 : Int32).toInt = 0) c32562
      exact K17  _ _ _ _  hT hfr  (lv_sub hl [0, 1, 2, 3] rfl)
    · have w32564 := cv_nlt (rfl : p3.toInt = p3.toInt) (by decide : (0 : Int32).toInt = 0) c32562
      refine lv_iload_n hx hb dX11_in_12 rfl (lv_at hl 3 rfl) ?_
      refine lv_iconst (v := 4) hx hb dX11_in_13 (by decide) ?_
      refine lv_icmp_le (tgt := 23) hx hb dX11_in_14 (by decide) (fun c32565 => ?_) (fun c32565 => ?_)
      · have w32566 := cv_le (rfl : p3.toInt = p3.toInt) (by decide : (4 : Int32).toInt = 4) c32565
        refine lv_iload_n hx hb dX11_in_23 rfl (lv_at hl 2 rfl) ?_
        refine lv_if_lt (tgt := 33) hx hb dX11_in_24 (by decide) (fun c32567 => ?_) (fun c32567 => ?_)
        · have w32568 := cv_lt (rfl : p2.toInt = p2.toInt) (by decide : (0 : Int32).toInt = 0) c32567
          exact K33  _ _ _ _ (by omega) (by omega) hT hfr  (lv_sub hl [0, 1, 2, 3] rfl)
        · have w32569 := cv_nlt (rfl : p2.toInt = p2.toInt) (by decide : (0 : Int32).toInt = 0) c32567
          refine lv_iload_n hx hb dX11_in_27 rfl (lv_at hl 2 rfl) ?_
          refine lv_bipush (v := 60) hx hb dX11_in_28 (by decide) ?_
          refine lv_icmp_le (tgt := 39) hx hb dX11_in_30 (by decide) (fun c32570 => ?_) (fun c32570 => ?_)
          · have w32571 := cv_le (rfl : p2.toInt = p2.toInt) (by decide : (60 : Int32).toInt = 60) c32570
            refine lv_aload_n hx hb dX11_in_39 rfl (lv_at hl 0 rfl) ?_
            refine lv_iload_n hx hb dX11_in_40 rfl (lv_at hl 2 rfl) ?_
            refine t_cVv (n := 1) (C := RX11) (T := TX11) (N := 16) (As := [.int p2]) (rest := []) X hT (kt83_X11_goTo l G tag L F hT.2.2.2 p0 p2 m0 g0 (by omega)) m0 g0 rfl rfl qw_1092 qw_1093 qw_1094 qw_2 qw_1095 ⟨rfl, by decide +kernel, by decide +kernel, by decide +kernel⟩ ⟨Nat.le_of_ble_eq_true rfl, Nat.le_of_ble_eq_true rfl⟩ hl rfl rfl (Nat.le_of_ble_eq_true rfl) dX11_in_41 ⟨Nat.le_of_ble_eq_true rfl, Nat.le_of_ble_eq_true rfl⟩ (fun F H locs hT hz32572 => ?_)
            have yz32572 := hz32572
            have hfr : (∀ b j : Nat, (tag b ≠ 19 ∨ j ≠ 0) → (tag b ≠ 19 ∨ j ≠ 1) → (tag b ≠ 26 ∨ j ≠ 13) → fld F b j = fld Fo b j) ∧ EF tag F Fo := ⟨fun b j n19_0 n19_1 n26_13 => (yz32572.1 b j n19_0 n19_1).trans (hfr.1 b j n19_0 n19_1 n26_13), fun b j hb => (yz32572.2 b j hb).trans (hfr.2 b j hb)⟩
            refine lv_iload_n hx hb dX11_in_44 rfl (lv_at hl 3 rfl) ?_
            by_cases c32573 : p3 = 0
            · have w32574 := cv_eq (rfl : p3.toInt = p3.toInt) (by decide : (0 : Int32).toInt = 0) c32573
              refine lv_tableIn (off := 31) (tgt := 76) hx hb dX11_in_45 (by rw [c32573]; decide) (by rw [c32573]; decide) (by rw [c32573]; decide) (by decide) ?_
              refine lv_aload_n hx hb dX11_in_76 rfl (lv_at hl 0 rfl) ?_
              refine lv_aload_n hx hb dX11_in_77 rfl (lv_at hl 0 rfl) ?_
              refine t_get (C := RX11) (T := TX11) (N := 16) X hT m0 g0 rfl rfl 7 (by decide) qw_25 inlX11 rfl dX11_in_78 (fun v32575 hv32575 ov32575 => ?_)
              obtain ⟨b32576, rfl, mb32576, gb32576⟩ := okV_r ov32575
              have gb32576 : tag b32576 = 19 := tg_of gb32576
              refine t_get (C := RX7) (T := TX7) (N := 7) X hT mb32576 gb32576 rfl rfl 2 (by decide) qw_766 inlX7 rfl dX11_in_81 (fun v32577 hv32577 ov32577 => ?_)
              obtain ⟨b32578, rfl, mb32578, gb32578⟩ := okV_r ov32577
              have gb32578 : tag b32578 = 8 := tg_of gb32578
              refine lv_iload_n hx hb dX11_in_84 rfl (lv_at hl 1 rfl) ?_
              refine t_ild X hT mb32578 gb32578 rfl (by omega) dX11_in_85 (fun z32579 vz32579 rz32579 => ?_)
              have rz32579 : 0 ≤ z32579.toInt ∧ z32579.toInt ≤ 6 := rz32579
              refine t_cVi (n := 1) (C := RX11) (T := TX11) (N := 16) (As := [.int z32579]) (rest := []) X hT (kt56_X11_answer l G tag L F hT.2.2.2 p0 z32579 m0 g0) m0 g0 rfl rfl qw_463 qw_464 qw_465 qw_2 qw_466 ⟨rfl, by decide +kernel, by decide +kernel, by decide +kernel⟩ ⟨Nat.le_of_ble_eq_true rfl, Nat.le_of_ble_eq_true rfl⟩ hl rfl rfl (Nat.le_of_ble_eq_true rfl) dX11_in_86 ⟨Nat.le_of_ble_eq_true rfl, Nat.le_of_ble_eq_true rfl⟩ (fun z32580 F H locs hT hz32580 => ?_)
              obtain ⟨hz32580, yz32580⟩ := hz32580
              have hv32575 := (yz32580.1 _ 7 (Or.inr (by decide))).trans hv32575
              have hv32577 := (yz32580.1 _ 2 (Or.inr (by decide))).trans hv32577
              have hfr : (∀ b j : Nat, (tag b ≠ 19 ∨ j ≠ 0) → (tag b ≠ 19 ∨ j ≠ 1) → (tag b ≠ 26 ∨ j ≠ 13) → fld F b j = fld Fo b j) ∧ EF tag F Fo := ⟨fun b j n19_0 n19_1 n26_13 => (yz32580.1 b j n26_13).trans (hfr.1 b j n19_0 n19_1 n26_13), fun b j hb => (yz32580.2 b j hb).trans (hfr.2 b j hb)⟩
              exact t_iret hQ X hT (⟨rg_all _, hfr⟩) (Nat.le_of_ble_eq_true rfl) (Nat.le_of_ble_eq_true rfl) dX11_in_89
            have w32581 := cv_ne (rfl : p3.toInt = p3.toInt) (by decide : (0 : Int32).toInt = 0) c32573
            by_cases c32582 : p3 = 1
            · have w32583 := cv_eq (rfl : p3.toInt = p3.toInt) (by decide : (1 : Int32).toInt = 1) c32582
              refine lv_tableIn (off := 45) (tgt := 90) hx hb dX11_in_45 (by rw [c32582]; decide) (by rw [c32582]; decide) (by rw [c32582]; decide) (by decide) ?_
              refine lv_aload_n hx hb dX11_in_90 rfl (lv_at hl 0 rfl) ?_
              refine lv_aload_n hx hb dX11_in_91 rfl (lv_at hl 0 rfl) ?_
              refine t_get (C := RX11) (T := TX11) (N := 16) X hT m0 g0 rfl rfl 7 (by decide) qw_25 inlX11 rfl dX11_in_92 (fun v32584 hv32584 ov32584 => ?_)
              obtain ⟨b32585, rfl, mb32585, gb32585⟩ := okV_r ov32584
              have gb32585 : tag b32585 = 19 := tg_of gb32585
              refine t_get (C := RX7) (T := TX7) (N := 7) X hT mb32585 gb32585 rfl rfl 3 (by decide) qw_767 inlX7 rfl dX11_in_95 (fun v32586 hv32586 ov32586 => ?_)
              obtain ⟨b32587, rfl, mb32587, gb32587⟩ := okV_r ov32586
              have gb32587 : tag b32587 = 5 := tg_of gb32587
              refine lv_iload_n hx hb dX11_in_98 rfl (lv_at hl 1 rfl) ?_
              refine t_ild X hT mb32587 gb32587 rfl (by omega) dX11_in_99 (fun z32588 vz32588 rz32588 => ?_)
              have rz32588 : (-2147483648) ≤ z32588.toInt ∧ z32588.toInt ≤ 2147483647 := rz32588
              refine t_cVi (n := 1) (C := RX11) (T := TX11) (N := 16) (As := [.int z32588]) (rest := []) X hT (kt56_X11_answer l G tag L F hT.2.2.2 p0 z32588 m0 g0) m0 g0 rfl rfl qw_463 qw_464 qw_465 qw_2 qw_466 ⟨rfl, by decide +kernel, by decide +kernel, by decide +kernel⟩ ⟨Nat.le_of_ble_eq_true rfl, Nat.le_of_ble_eq_true rfl⟩ hl rfl rfl (Nat.le_of_ble_eq_true rfl) dX11_in_100 ⟨Nat.le_of_ble_eq_true rfl, Nat.le_of_ble_eq_true rfl⟩ (fun z32589 F H locs hT hz32589 => ?_)
              obtain ⟨hz32589, yz32589⟩ := hz32589
              have hv32584 := (yz32589.1 _ 7 (Or.inr (by decide))).trans hv32584
              have hv32586 := (yz32589.1 _ 3 (Or.inr (by decide))).trans hv32586
              have hfr : (∀ b j : Nat, (tag b ≠ 19 ∨ j ≠ 0) → (tag b ≠ 19 ∨ j ≠ 1) → (tag b ≠ 26 ∨ j ≠ 13) → fld F b j = fld Fo b j) ∧ EF tag F Fo := ⟨fun b j n19_0 n19_1 n26_13 => (yz32589.1 b j n26_13).trans (hfr.1 b j n19_0 n19_1 n26_13), fun b j hb => (yz32589.2 b j hb).trans (hfr.2 b j hb)⟩
              exact t_iret hQ X hT (⟨rg_all _, hfr⟩) (Nat.le_of_ble_eq_true rfl) (Nat.le_of_ble_eq_true rfl) dX11_in_103
            have w32590 := cv_ne (rfl : p3.toInt = p3.toInt) (by decide : (1 : Int32).toInt = 1) c32582
            by_cases c32591 : p3 = 2
            · have w32592 := cv_eq (rfl : p3.toInt = p3.toInt) (by decide : (2 : Int32).toInt = 2) c32591
              refine lv_tableIn (off := 59) (tgt := 104) hx hb dX11_in_45 (by rw [c32591]; decide) (by rw [c32591]; decide) (by rw [c32591]; decide) (by decide) ?_
              refine lv_aload_n hx hb dX11_in_104 rfl (lv_at hl 0 rfl) ?_
              refine lv_aload_n hx hb dX11_in_105 rfl (lv_at hl 0 rfl) ?_
              refine t_get (C := RX11) (T := TX11) (N := 16) X hT m0 g0 rfl rfl 7 (by decide) qw_25 inlX11 rfl dX11_in_106 (fun v32593 hv32593 ov32593 => ?_)
              obtain ⟨b32594, rfl, mb32594, gb32594⟩ := okV_r ov32593
              have gb32594 : tag b32594 = 19 := tg_of gb32594
              refine t_get (C := RX7) (T := TX7) (N := 7) X hT mb32594 gb32594 rfl rfl 4 (by decide) qw_768 inlX7 rfl dX11_in_109 (fun v32595 hv32595 ov32595 => ?_)
              obtain ⟨b32596, rfl, mb32596, gb32596⟩ := okV_r ov32595
              have gb32596 : tag b32596 = 5 := tg_of gb32596
              refine lv_iload_n hx hb dX11_in_112 rfl (lv_at hl 1 rfl) ?_
              refine t_ild X hT mb32596 gb32596 rfl (by omega) dX11_in_113 (fun z32597 vz32597 rz32597 => ?_)
              have rz32597 : (-2147483648) ≤ z32597.toInt ∧ z32597.toInt ≤ 2147483647 := rz32597
              refine t_cVi (n := 1) (C := RX11) (T := TX11) (N := 16) (As := [.int z32597]) (rest := []) X hT (kt56_X11_answer l G tag L F hT.2.2.2 p0 z32597 m0 g0) m0 g0 rfl rfl qw_463 qw_464 qw_465 qw_2 qw_466 ⟨rfl, by decide +kernel, by decide +kernel, by decide +kernel⟩ ⟨Nat.le_of_ble_eq_true rfl, Nat.le_of_ble_eq_true rfl⟩ hl rfl rfl (Nat.le_of_ble_eq_true rfl) dX11_in_114 ⟨Nat.le_of_ble_eq_true rfl, Nat.le_of_ble_eq_true rfl⟩ (fun z32598 F H locs hT hz32598 => ?_)
              obtain ⟨hz32598, yz32598⟩ := hz32598
              have hv32593 := (yz32598.1 _ 7 (Or.inr (by decide))).trans hv32593
              have hv32595 := (yz32598.1 _ 4 (Or.inr (by decide))).trans hv32595
              have hfr : (∀ b j : Nat, (tag b ≠ 19 ∨ j ≠ 0) → (tag b ≠ 19 ∨ j ≠ 1) → (tag b ≠ 26 ∨ j ≠ 13) → fld F b j = fld Fo b j) ∧ EF tag F Fo := ⟨fun b j n19_0 n19_1 n26_13 => (yz32598.1 b j n26_13).trans (hfr.1 b j n19_0 n19_1 n26_13), fun b j hb => (yz32598.2 b j hb).trans (hfr.2 b j hb)⟩
              exact t_iret hQ X hT (⟨rg_all _, hfr⟩) (Nat.le_of_ble_eq_true rfl) (Nat.le_of_ble_eq_true rfl) dX11_in_117
            have w32599 := cv_ne (rfl : p3.toInt = p3.toInt) (by decide : (2 : Int32).toInt = 2) c32591
            by_cases c32600 : p3 = 3
            · have w32601 := cv_eq (rfl : p3.toInt = p3.toInt) (by decide : (3 : Int32).toInt = 3) c32600
              refine lv_tableIn (off := 73) (tgt := 118) hx hb dX11_in_45 (by rw [c32600]; decide) (by rw [c32600]; decide) (by rw [c32600]; decide) (by decide) ?_
              refine lv_aload_n hx hb dX11_in_118 rfl (lv_at hl 0 rfl) ?_
              refine lv_aload_n hx hb dX11_in_119 rfl (lv_at hl 0 rfl) ?_
              refine t_get (C := RX11) (T := TX11) (N := 16) X hT m0 g0 rfl rfl 7 (by decide) qw_25 inlX11 rfl dX11_in_120 (fun v32602 hv32602 ov32602 => ?_)
              obtain ⟨b32603, rfl, mb32603, gb32603⟩ := okV_r ov32602
              have gb32603 : tag b32603 = 19 := tg_of gb32603
              refine lv_iload_n hx hb dX11_in_123 rfl (lv_at hl 1 rfl) ?_
              refine t_cVi (n := 1) (C := RX7) (T := TX7) (N := 7) (As := [.int p1]) (rest := [.ref p0]) X hT (kt22_X7_fallen l G tag L F hT.2.2.2 b32603 p1 mb32603 gb32603 (by omega)) mb32603 gb32603 rfl rfl qw_1136 qw_1137 qw_1138 qw_22 qw_1139 ⟨rfl, by decide +kernel, by decide +kernel, by decide +kernel⟩ ⟨Nat.le_of_ble_eq_true rfl, Nat.le_of_ble_eq_true rfl⟩ hl rfl rfl (Nat.le_of_ble_eq_true rfl) dX11_in_124 ⟨Nat.le_of_ble_eq_true rfl, Nat.le_of_ble_eq_true rfl⟩ (fun z32604 F9 H locs hT hz32604 => ?_)
              obtain ⟨fz32604, hz32604⟩ := hz32604
              rw [fz32604] at hT
              refine t_cVi (n := 1) (C := RX11) (T := TX11) (N := 16) (As := [.int z32604]) (rest := []) X hT (kt56_X11_answer l G tag L F hT.2.2.2 p0 z32604 m0 g0) m0 g0 rfl rfl qw_463 qw_464 qw_465 qw_2 qw_466 ⟨rfl, by decide +kernel, by decide +kernel, by decide +kernel⟩ ⟨Nat.le_of_ble_eq_true rfl, Nat.le_of_ble_eq_true rfl⟩ hl rfl rfl (Nat.le_of_ble_eq_true rfl) dX11_in_127 ⟨Nat.le_of_ble_eq_true rfl, Nat.le_of_ble_eq_true rfl⟩ (fun z32605 F H locs hT hz32605 => ?_)
              obtain ⟨hz32605, yz32605⟩ := hz32605
              have hv32602 := (yz32605.1 _ 7 (Or.inr (by decide))).trans hv32602
              have hfr : (∀ b j : Nat, (tag b ≠ 19 ∨ j ≠ 0) → (tag b ≠ 19 ∨ j ≠ 1) → (tag b ≠ 26 ∨ j ≠ 13) → fld F b j = fld Fo b j) ∧ EF tag F Fo := ⟨fun b j n19_0 n19_1 n26_13 => (yz32605.1 b j n26_13).trans (hfr.1 b j n19_0 n19_1 n26_13), fun b j hb => (yz32605.2 b j hb).trans (hfr.2 b j hb)⟩
              exact t_iret hQ X hT (⟨rg_all _, hfr⟩) (Nat.le_of_ble_eq_true rfl) (Nat.le_of_ble_eq_true rfl) dX11_in_130
            have w32606 := cv_ne (rfl : p3.toInt = p3.toInt) (by decide : (3 : Int32).toInt = 3) c32600
            refine lv_tableOut (tgt := 131) hx hb dX11_in_45 (by omega) (by decide) ?_
            refine lv_aload_n hx hb dX11_in_131 rfl (lv_at hl 0 rfl) ?_
            refine lv_aload_n hx hb dX11_in_132 rfl (lv_at hl 0 rfl) ?_
            refine t_get (C := RX11) (T := TX11) (N := 16) X hT m0 g0 rfl rfl 3 (by decide) qw_18 inlX11 rfl dX11_in_133 (fun v32607 hv32607 ov32607 => ?_)
            obtain ⟨b32608, rfl, mb32608, gb32608⟩ := okV_r ov32607
            have gb32608 : tag b32608 = 18 := tg_of gb32608
            refine lv_aload_n hx hb dX11_in_136 rfl (lv_at hl 0 rfl) ?_
            refine t_get (C := RX11) (T := TX11) (N := 16) X hT m0 g0 rfl rfl 7 (by decide) qw_25 inlX11 rfl dX11_in_137 (fun v32609 hv32609 ov32609 => ?_)
            obtain ⟨b32610, rfl, mb32610, gb32610⟩ := okV_r ov32609
            have gb32610 : tag b32610 = 19 := tg_of gb32610
            refine lv_iload_n hx hb dX11_in_140 rfl (lv_at hl 1 rfl) ?_
            refine t_cSi (n := 3) (As := [.ref b32608, .ref b32610, .int p1]) (rest := [.ref p0]) X hT (kt89_X6_isShut l G tag L F hT.2.2.2 b32608 b32610 p1 mb32608 gb32608 mb32610 gb32610 (by omega)) qw_774 qw_775 qw_380 qw_776 ⟨by decide +kernel, by decide +kernel, by decide +kernel⟩ ⟨Nat.le_of_ble_eq_true rfl, Nat.le_of_ble_eq_true rfl⟩ hl rfl rfl (Nat.le_of_ble_eq_true rfl) dX11_in_141 ⟨Nat.le_of_ble_eq_true rfl, Nat.le_of_ble_eq_true rfl⟩ (fun z32611 F9 H locs hT hz32611 => ?_)
            obtain ⟨fz32611, hz32611⟩ := hz32611
            rw [fz32611] at hT
            refine lv_if_eq (tgt := 151) hx hb dX11_in_144 (by decide) (fun c32612 => ?_) (fun c32612 => ?_)
            · have w32613 := cv_eq (rfl : z32611.toInt = z32611.toInt) (by decide : (0 : Int32).toInt = 0) c32612
              refine lv_iconst (v := 0) hx hb dX11_in_151 (by decide) ?_
              exact K152 0 p0 _ _ _ _ (by decide) m0 g0 (by omega) (by omega) (by omega) hT hfr  (lv_sub hl [0, 1, 2, 3] rfl)
            · have w32614 := cv_ne (rfl : z32611.toInt = z32611.toInt) (by decide : (0 : Int32).toInt = 0) c32612
              refine lv_iconst (v := 1) hx hb dX11_in_147 (by decide) ?_
              refine lv_goto (tgt := 152) hx hb dX11_in_148 (by decide) ?_
              exact K152 1 p0 _ _ _ _ (by decide) m0 g0 (by omega) (by omega) (by omega) hT hfr  (lv_sub hl [0, 1, 2, 3] rfl)
          · have w32615 := cv_nle (rfl : p2.toInt = p2.toInt) (by decide : (60 : Int32).toInt = 60) c32570
            exact K33  _ _ _ _ (by omega) (by omega) hT hfr  (lv_sub hl [0, 1, 2, 3] rfl)
      · have w32616 := cv_nle (rfl : p3.toInt = p3.toInt) (by decide : (4 : Int32).toInt = 4) c32565
        exact K17  _ _ _ _  hT hfr  (lv_sub hl [0, 1, 2, 3] rfl)
set_option maxHeartbeats 4000000 in
set_option maxRecDepth 100000 in
theorem kt92_X11_isWall (l : Launch) (G : KG) (tag : Nat → Nat) (L : List Nat) (F : Nat → va_E) (ho : okT G ttC tag L F) (p0 : Nat) (p1 : Int32) (m0 : p0 ∈ L) (g0 : tag p0 = 26) : TMi l yX11_isWall cX11_isWall 2 (some .boolean) { frames := 0, cells := 0, slots := 0, locals := 0 } G ttC tag L F [.ref p0, .int p1] (fun r F1 => F1 = F ∧ ((0 ≤ r.toInt ∧ r.toInt ≤ 1) ∧ (r.toInt ≠ 0 → (0 ≤ p1.toInt ∧ p1.toInt ≤ 5)))) := by
  refine t_bodyi (y := yX11_isWall) (cd := cX11_isWall) (mL := 2) (rt := (some .boolean)) (rm := { frames := 0, cells := 0, slots := 0, locals := 0 }) (av := [.ref p0, .int p1]) (by decide) (Nat.le_of_ble_eq_true rfl) ho ?_
  intro p e s m args below meth c ls A Q hQ X hT hl
  have hx := X.1.1
  have hb := X.1.2.1
  have hl : lv_has ls 2 [(0, .ref p0), (1, .int p1)] := hl
  have rp1 := rg_all p1
  refine lv_aload_n hx hb dX11_isWall_0 rfl (lv_at hl 0 rfl) ?_
  refine t_get (C := RX11) (T := TX11) (N := 16) X hT m0 g0 rfl rfl 2 (by decide) qw_150 inlX11 rfl dX11_isWall_1 (fun v32782 hv32782 ov32782 => ?_)
  obtain ⟨z32783, rfl, rz32783⟩ := okV_i ov32782
  refine lv_if_eq (tgt := 26) hx hb dX11_isWall_4 (by decide) (fun c32784 => ?_) (fun c32784 => ?_)
  · have w32785 := cv_eq (rfl : z32783.toInt = z32783.toInt) (by decide : (0 : Int32).toInt = 0) c32784
    refine lv_iconst (v := 0) hx hb dX11_isWall_26 (by decide) ?_
    exact t_zret hQ X hT (by decide) (⟨rfl, ⟨(by decide), fun h => absurd (by decide) h⟩⟩) (Nat.le_of_ble_eq_true rfl) (Nat.le_of_ble_eq_true rfl) dX11_isWall_27
  · have w32786 := cv_ne (rfl : z32783.toInt = z32783.toInt) (by decide : (0 : Int32).toInt = 0) c32784
    refine lv_iload_n hx hb dX11_isWall_7 rfl (lv_at hl 1 rfl) ?_
    refine lv_if_lt (tgt := 26) hx hb dX11_isWall_8 (by decide) (fun c32787 => ?_) (fun c32787 => ?_)
    · have w32788 := cv_lt (rfl : p1.toInt = p1.toInt) (by decide : (0 : Int32).toInt = 0) c32787
      refine lv_iconst (v := 0) hx hb dX11_isWall_26 (by decide) ?_
      exact t_zret hQ X hT (by decide) (⟨rfl, ⟨(by decide), fun h => absurd (by decide) h⟩⟩) (Nat.le_of_ble_eq_true rfl) (Nat.le_of_ble_eq_true rfl) dX11_isWall_27
    · have w32789 := cv_nlt (rfl : p1.toInt = p1.toInt) (by decide : (0 : Int32).toInt = 0) c32787
      refine lv_iload_n hx hb dX11_isWall_11 rfl (lv_at hl 1 rfl) ?_
      refine lv_aload_n hx hb dX11_isWall_12 rfl (lv_at hl 0 rfl) ?_
      refine t_get (C := RX11) (T := TX11) (N := 16) X hT m0 g0 rfl rfl 3 (by decide) qw_18 inlX11 rfl dX11_isWall_13 (fun v32790 hv32790 ov32790 => ?_)
      obtain ⟨b32791, rfl, mb32791, gb32791⟩ := okV_r ov32790
      have gb32791 : tag b32791 = 18 := tg_of gb32791
      refine t_get (C := RX1) (T := TX1) (N := 20) X hT mb32791 gb32791 rfl rfl 16 (by decide) qw_1383 inlX1 rfl dX11_isWall_16 (fun v32792 hv32792 ov32792 => ?_)
      obtain ⟨z32793, rfl, rz32793⟩ := okV_i ov32792
      refine lv_icmp_ge (tgt := 26) hx hb dX11_isWall_19 (by decide) (fun c32794 => ?_) (fun c32794 => ?_)
      · have w32795 := cv_le (rfl : z32793.toInt = z32793.toInt) (rfl : p1.toInt = p1.toInt) c32794
        refine lv_iconst (v := 0) hx hb dX11_isWall_26 (by decide) ?_
        exact t_zret hQ X hT (by decide) (⟨rfl, ⟨(by decide), fun h => absurd (by decide) h⟩⟩) (Nat.le_of_ble_eq_true rfl) (Nat.le_of_ble_eq_true rfl) dX11_isWall_27
      · have w32796 := cv_nle (rfl : z32793.toInt = z32793.toInt) (rfl : p1.toInt = p1.toInt) c32794
        refine lv_iconst (v := 1) hx hb dX11_isWall_22 (by decide) ?_
        refine lv_goto (tgt := 27) hx hb dX11_isWall_23 (by decide) ?_
        exact t_zret hQ X hT (by decide) (⟨rfl, ⟨(by decide), fun _ => by omega⟩⟩) (Nat.le_of_ble_eq_true rfl) (Nat.le_of_ble_eq_true rfl) dX11_isWall_27
set_option maxHeartbeats 4000000 in
set_option maxRecDepth 100000 in
theorem kt93_X8_byteAt (l : Launch) (G : KG) (tag : Nat → Nat) (L : List Nat) (F : Nat → va_E) (ho : okT G ttC tag L F) (p0 : Nat) (p1 : Int32) (x0 : Nat) (m0 : p0 ∈ L) (g0 : tag p0 = 24) (mx0 : x0 ∈ L) (gx0 : tag x0 = 1) (pf0 : fld F p0 0 = .ref x0) : TMi l yX8_byteAt cX8_byteAt 2 (some .int) { frames := 0, cells := 0, slots := 0, locals := 0 } G ttC tag L F [.ref p0, .int p1] (fun r F1 => F1 = F ∧ (((-1) ≤ r.toInt ∧ r.toInt ≤ 255) ∧ (r.toInt ≠ (-1) → (0 ≤ p1.toInt ∧ p1.toInt ≤ 999)))) := by
  refine t_bodyi (y := yX8_byteAt) (cd := cX8_byteAt) (mL := 2) (rt := (some .int)) (rm := { frames := 0, cells := 0, slots := 0, locals := 0 }) (av := [.ref p0, .int p1]) (by decide) (Nat.le_of_ble_eq_true rfl) ho ?_
  intro p e s m args below meth c ls A Q hQ X hT hl
  have hx := X.1.1
  have hb := X.1.2.1
  have hl : lv_has ls 2 [(0, .ref p0), (1, .int p1)] := hl
  have rp1 := rg_all p1
  refine lv_iload_n hx hb dX8_byteAt_0 rfl (lv_at hl 1 rfl) ?_
  refine lv_if_lt (tgt := 30) hx hb dX8_byteAt_1 (by decide) (fun c33007 => ?_) (fun c33007 => ?_)
  · have w33008 := cv_lt (rfl : p1.toInt = p1.toInt) (by decide : (0 : Int32).toInt = 0) c33007
    refine lv_iconst (v := (-1)) hx hb dX8_byteAt_30 (by decide) ?_
    exact t_iret hQ X hT (⟨rfl, ⟨(by decide), fun h => absurd (by decide) h⟩⟩) (Nat.le_of_ble_eq_true rfl) (Nat.le_of_ble_eq_true rfl) dX8_byteAt_31
  · have w33009 := cv_nlt (rfl : p1.toInt = p1.toInt) (by decide : (0 : Int32).toInt = 0) c33007
    refine lv_iload_n hx hb dX8_byteAt_4 rfl (lv_at hl 1 rfl) ?_
    refine lv_aload_n hx hb dX8_byteAt_5 rfl (lv_at hl 0 rfl) ?_
    refine t_get (C := RX8) (T := TX8) (N := 8) X hT m0 g0 rfl rfl 1 (by decide) qw_194 inlX8 rfl dX8_byteAt_6 (fun v33010 hv33010 ov33010 => ?_)
    obtain ⟨z33011, rfl, rz33011⟩ := okV_i ov33010
    refine lv_icmp_ge (tgt := 30) hx hb dX8_byteAt_9 (by decide) (fun c33012 => ?_) (fun c33012 => ?_)
    · have w33013 := cv_le (rfl : z33011.toInt = z33011.toInt) (rfl : p1.toInt = p1.toInt) c33012
      refine lv_iconst (v := (-1)) hx hb dX8_byteAt_30 (by decide) ?_
      exact t_iret hQ X hT (⟨rfl, ⟨(by decide), fun h => absurd (by decide) h⟩⟩) (Nat.le_of_ble_eq_true rfl) (Nat.le_of_ble_eq_true rfl) dX8_byteAt_31
    · have w33014 := cv_nle (rfl : z33011.toInt = z33011.toInt) (rfl : p1.toInt = p1.toInt) c33012
      refine lv_iload_n hx hb dX8_byteAt_12 rfl (lv_at hl 1 rfl) ?_
      refine lv_aload_n hx hb dX8_byteAt_13 rfl (lv_at hl 0 rfl) ?_
      refine t_get (C := RX8) (T := TX8) (N := 8) X hT m0 g0 rfl rfl 0 (by decide) qw_193 inlX8 rfl dX8_byteAt_14 (fun v33015 hv33015 ov33015 => ?_)
      obtain rfl : v33015 = .ref x0 := hv33015.symm.trans pf0
      refine t_alen X hT mx0 gx0 rfl (by decide) dX8_byteAt_17 ?_
      refine lv_topi (fun z33016 ez33016 => ?_)
      obtain rfl : z33016 = 1000 := ez33016.trans (by rfl)
      refine lv_icmp_ge (tgt := 30) hx hb dX8_byteAt_18 (by decide) (fun c33017 => ?_) (fun c33017 => ?_)
      · have w33018 := cv_le (by decide : (1000 : Int32).toInt = 1000) (rfl : p1.toInt = p1.toInt) c33017
        exfalso
        omega
      · have w33019 := cv_nle (by decide : (1000 : Int32).toInt = 1000) (rfl : p1.toInt = p1.toInt) c33017
        refine lv_aload_n hx hb dX8_byteAt_21 rfl (lv_at hl 0 rfl) ?_
        refine t_get (C := RX8) (T := TX8) (N := 8) X hT m0 g0 rfl rfl 0 (by decide) qw_193 inlX8 rfl dX8_byteAt_22 (fun v33020 hv33020 ov33020 => ?_)
        obtain rfl : v33020 = .ref x0 := hv33020.symm.trans pf0
        refine lv_iload_n hx hb dX8_byteAt_25 rfl (lv_at hl 1 rfl) ?_
        refine t_ild X hT mx0 gx0 rfl (by omega) dX8_byteAt_26 (fun z33021 vz33021 rz33021 => ?_)
        have rz33021 : 0 ≤ z33021.toInt ∧ z33021.toInt ≤ 255 := rz33021
        refine lv_goto (tgt := 31) hx hb dX8_byteAt_27 (by decide) ?_
        exact t_iret hQ X hT (⟨rfl, ⟨(by omega), fun _ => by omega⟩⟩) (Nat.le_of_ble_eq_true rfl) (Nat.le_of_ble_eq_true rfl) dX8_byteAt_31
set_option maxHeartbeats 4000000 in
set_option maxRecDepth 100000 in
theorem kt94_X8_isLetter (l : Launch) (G : KG) (tag : Nat → Nat) (L : List Nat) (F : Nat → va_E) (ho : okT G ttC tag L F) (p0 : Int32)  : TMi l yX8_isLetter cX8_isLetter 1 (some .boolean) { frames := 0, cells := 0, slots := 0, locals := 0 } G ttC tag L F [.int p0] (fun r F1 => F1 = F ∧ (0 ≤ r.toInt ∧ r.toInt ≤ 1)) := by
  refine t_bodyi (y := yX8_isLetter) (cd := cX8_isLetter) (mL := 1) (rt := (some .boolean)) (rm := { frames := 0, cells := 0, slots := 0, locals := 0 }) (av := [.int p0]) (by decide) (Nat.le_of_ble_eq_true rfl) ho ?_
  intro p e s m args below meth c ls A Q hQ X hT hl
  have hx := X.1.1
  have hb := X.1.2.1
  have hl : lv_has ls 1 [(0, .int p0)] := hl
  have rp0 := rg_all p0
  refine lv_iload_n hx hb dX8_isLetter_0 rfl (lv_at hl 0 rfl) ?_
  refine lv_bipush (v := 97) hx hb dX8_isLetter_1 (by decide) ?_
  refine lv_icmp_lt (tgt := 16) hx hb dX8_isLetter_3 (by decide) (fun c33122 => ?_) (fun c33122 => ?_)
  · have w33123 := cv_lt (rfl : p0.toInt = p0.toInt) (by decide : (97 : Int32).toInt = 97) c33122
    refine lv_iconst (v := 0) hx hb dX8_isLetter_16 (by decide) ?_
    exact t_zret hQ X hT (by decide) (⟨rfl, (by decide)⟩) (Nat.le_of_ble_eq_true rfl) (Nat.le_of_ble_eq_true rfl) dX8_isLetter_17
  · have w33124 := cv_nlt (rfl : p0.toInt = p0.toInt) (by decide : (97 : Int32).toInt = 97) c33122
    refine lv_iload_n hx hb dX8_isLetter_6 rfl (lv_at hl 0 rfl) ?_
    refine lv_bipush (v := 122) hx hb dX8_isLetter_7 (by decide) ?_
    refine lv_icmp_gt (tgt := 16) hx hb dX8_isLetter_9 (by decide) (fun c33125 => ?_) (fun c33125 => ?_)
    · have w33126 := cv_lt (by decide : (122 : Int32).toInt = 122) (rfl : p0.toInt = p0.toInt) c33125
      refine lv_iconst (v := 0) hx hb dX8_isLetter_16 (by decide) ?_
      exact t_zret hQ X hT (by decide) (⟨rfl, (by decide)⟩) (Nat.le_of_ble_eq_true rfl) (Nat.le_of_ble_eq_true rfl) dX8_isLetter_17
    · have w33127 := cv_nlt (by decide : (122 : Int32).toInt = 122) (rfl : p0.toInt = p0.toInt) c33125
      refine lv_iconst (v := 1) hx hb dX8_isLetter_12 (by decide) ?_
      refine lv_goto (tgt := 17) hx hb dX8_isLetter_13 (by decide) ?_
      exact t_zret hQ X hT (by decide) (⟨rfl, (by decide)⟩) (Nat.le_of_ble_eq_true rfl) (Nat.le_of_ble_eq_true rfl) dX8_isLetter_17
set_option maxHeartbeats 4000000 in
set_option maxRecDepth 100000 in
theorem kt95_X8_isDigit (l : Launch) (G : KG) (tag : Nat → Nat) (L : List Nat) (F : Nat → va_E) (ho : okT G ttC tag L F) (p0 : Int32)  : TMi l yX8_isDigit cX8_isDigit 1 (some .boolean) { frames := 0, cells := 0, slots := 0, locals := 0 } G ttC tag L F [.int p0] (fun r F1 => F1 = F ∧ (0 ≤ r.toInt ∧ r.toInt ≤ 1)) := by
  refine t_bodyi (y := yX8_isDigit) (cd := cX8_isDigit) (mL := 1) (rt := (some .boolean)) (rm := { frames := 0, cells := 0, slots := 0, locals := 0 }) (av := [.int p0]) (by decide) (Nat.le_of_ble_eq_true rfl) ho ?_
  intro p e s m args below meth c ls A Q hQ X hT hl
  have hx := X.1.1
  have hb := X.1.2.1
  have hl : lv_has ls 1 [(0, .int p0)] := hl
  have rp0 := rg_all p0
  refine lv_iload_n hx hb dX8_isDigit_0 rfl (lv_at hl 0 rfl) ?_
  refine lv_bipush (v := 48) hx hb dX8_isDigit_1 (by decide) ?_
  refine lv_icmp_lt (tgt := 16) hx hb dX8_isDigit_3 (by decide) (fun c33197 => ?_) (fun c33197 => ?_)
  · have w33198 := cv_lt (rfl : p0.toInt = p0.toInt) (by decide : (48 : Int32).toInt = 48) c33197
    refine lv_iconst (v := 0) hx hb dX8_isDigit_16 (by decide) ?_
    exact t_zret hQ X hT (by decide) (⟨rfl, (by decide)⟩) (Nat.le_of_ble_eq_true rfl) (Nat.le_of_ble_eq_true rfl) dX8_isDigit_17
  · have w33199 := cv_nlt (rfl : p0.toInt = p0.toInt) (by decide : (48 : Int32).toInt = 48) c33197
    refine lv_iload_n hx hb dX8_isDigit_6 rfl (lv_at hl 0 rfl) ?_
    refine lv_bipush (v := 57) hx hb dX8_isDigit_7 (by decide) ?_
    refine lv_icmp_gt (tgt := 16) hx hb dX8_isDigit_9 (by decide) (fun c33200 => ?_) (fun c33200 => ?_)
    · have w33201 := cv_lt (by decide : (57 : Int32).toInt = 57) (rfl : p0.toInt = p0.toInt) c33200
      refine lv_iconst (v := 0) hx hb dX8_isDigit_16 (by decide) ?_
      exact t_zret hQ X hT (by decide) (⟨rfl, (by decide)⟩) (Nat.le_of_ble_eq_true rfl) (Nat.le_of_ble_eq_true rfl) dX8_isDigit_17
    · have w33202 := cv_nlt (by decide : (57 : Int32).toInt = 57) (rfl : p0.toInt = p0.toInt) c33200
      refine lv_iconst (v := 1) hx hb dX8_isDigit_12 (by decide) ?_
      refine lv_goto (tgt := 17) hx hb dX8_isDigit_13 (by decide) ?_
      exact t_zret hQ X hT (by decide) (⟨rfl, (by decide)⟩) (Nat.le_of_ble_eq_true rfl) (Nat.le_of_ble_eq_true rfl) dX8_isDigit_17
