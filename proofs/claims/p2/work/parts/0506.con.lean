set_option maxHeartbeats 4000000 in
set_option maxRecDepth 100000 in
theorem kt62_X0_goRound (l : Launch) (G : KG) (tag : Nat → Nat) (L : List Nat) (Fo : Nat → va_E) (ho : okT G ttC tag L Fo) (p0 : Nat) (p1 : Int32) (m0 : p0 ∈ L) (g0 : tag p0 = 21) : TMv l yX0_goRound cX0_goRound 5 { frames := 1, cells := 0, slots := 0, locals := 15 } G ttC tag L Fo [.ref p0, .int p1] (fun F1 => ∀ b j : Nat, fld F1 b j = fld Fo b j) := by
  refine t_bodyv (y := yX0_goRound) (cd := cX0_goRound) (mL := 5) (rm := { frames := 1, cells := 0, slots := 0, locals := 15 }) (av := [.ref p0, .int p1]) (by decide) (Nat.le_of_ble_eq_true rfl) ho ?_
  intro p e s m args below meth c ls A Q hQ X hT hl
  have hx := X.1.1
  have hb := X.1.2.1
  have hl : lv_has ls 5 [(0, .ref p0), (1, .int p1)] := hl
  have rp1 := rg_all p1
  obtain ⟨F, hFo⟩ : ∃ F : Nat → va_E, F = Fo := ⟨_, rfl⟩
  rw [← hFo] at hT
  have hfr : ∀ b j : Nat, fld F b j = fld Fo b j := by
    rw [hFo]
    intros
    rfl
  have K73 : ∀ (n : Nat) (z18611 : Int32) (z18612 : Int32) (F : Nat → va_E) (H : Heap) (locs : List Loc) (ls : Array Slot), (z18612.toInt - 0 < (n : Int)) → (1 ≤ z18611.toInt ∧ z18611.toInt ≤ 48) → (0 ≤ z18612.toInt ∧ z18612.toInt ≤ 96) → TH G ttC A s tag L F H locs → (∀ b j : Nat, fld F b j = fld Fo b j) → lv_has ls 5 [(0, .ref p0), (1, .int p1), (2, .int z18611), (3, .int z18612)] → W p l e { frames := 1, cells := 0, slots := 0, locals := 15 } s m args below meth c H locs 0 0 Q (F0 m 73 ls []) := by
    intro n
    induction n with
    | zero =>
      intro z18611 z18612 F H locs ls hn rz18611 rz18612 hT hfr hl
      exfalso
      omega
    | succ n ih73 =>
      intro z18611 z18612 F H locs ls hn rz18611 rz18612 hT hfr hl
      refine lv_iload_n hx hb dX0_goRound_73 rfl (lv_at hl 3 rfl) ?_
      refine lv_if_le (tgt := 118) hx hb dX0_goRound_74 (by decide) (fun c18613 => ?_) (fun c18613 => ?_)
      · have w18614 := cv_le (rfl : z18612.toInt = z18612.toInt) (by decide : (0 : Int32).toInt = 0) c18613
        exact t_vret hQ X hT hfr (Nat.le_of_ble_eq_true rfl) (Nat.le_of_ble_eq_true rfl) dX0_goRound_118
      · have w18615 := cv_nle (rfl : z18612.toInt = z18612.toInt) (by decide : (0 : Int32).toInt = 0) c18613
        refine lv_iload_n hx hb dX0_goRound_77 rfl (lv_at hl 3 rfl) ?_
        refine lv_iconst (v := 1) hx hb dX0_goRound_78 (by decide) ?_
        refine lv_isub hx hb dX0_goRound_79 ?_
        refine lv_topi (fun z18616 ez18616 => ?_)
        have hz18616 : z18616.toInt = z18612.toInt - 1 := ar_sub ez18616 (rfl : z18612.toInt = z18612.toInt) (by decide : (1 : Int32).toInt = 1) (by omega) (by omega)
        have rz18616 : 0 ≤ z18616.toInt ∧ z18616.toInt ≤ 95 := by omega
        refine lv_iload_n hx hb dX0_goRound_80 rfl (lv_at hl 2 rfl) ?_
        refine lv_irem hx hb dX0_goRound_81 (ne0_of (by omega)) ?_
        refine lv_topi (fun z18617 ez18617 => ?_)
        have hz18617 := ar_remv ez18617 (by omega) (by omega)
        have rz18617 : 0 ≤ z18617.toInt ∧ z18617.toInt ≤ 47 := by omega
        refine lv_istore (lv' := [(4, .int z18617), (0, .ref p0), (1, .int p1), (2, .int z18611), (3, .int z18612)]) hx hb dX0_goRound_82 hl (by decide) rfl (fun ls hl => ?_)
        refine lv_aload_n hx hb dX0_goRound_84 rfl (lv_at hl 1 rfl) ?_
        refine t_get (C := RX0) (T := TX0) (N := 2) X hT m0 g0 rfl rfl 0 (by decide) qw_88 inlX0 rfl dX0_goRound_85 (fun v18618 hv18618 ov18618 => ?_)
        obtain ⟨b18619, rfl, mb18619, gb18619⟩ := okV_r ov18618
        have gb18619 : tag b18619 = 12 := tg_of gb18619
        refine lv_iload hx hb dX0_goRound_88 (lv_at hl 0 rfl) ?_
        refine lv_aload_n hx hb dX0_goRound_90 rfl (lv_at hl 1 rfl) ?_
        refine t_get (C := RX0) (T := TX0) (N := 2) X hT m0 g0 rfl rfl 0 (by decide) qw_88 inlX0 rfl dX0_goRound_91 (fun v18620 hv18620 ov18620 => ?_)
        obtain rfl : v18620 = .ref b18619 := hv18620.symm.trans hv18618
        refine lv_iload hx hb dX0_goRound_94 (lv_at hl 0 rfl) ?_
        refine t_ild X hT mb18619 gb18619 rfl (by omega) dX0_goRound_96 (fun z18621 vz18621 rz18621 => ?_)
        have rz18621 : (-2147483648) ≤ z18621.toInt ∧ z18621.toInt ≤ 2147483647 := rz18621
        refine lv_aload_n hx hb dX0_goRound_97 rfl (lv_at hl 1 rfl) ?_
        refine t_get (C := RX0) (T := TX0) (N := 2) X hT m0 g0 rfl rfl 0 (by decide) qw_88 inlX0 rfl dX0_goRound_98 (fun v18622 hv18622 ov18622 => ?_)
        obtain rfl : v18622 = .ref b18619 := hv18622.symm.trans hv18618
        refine lv_iload_n hx hb dX0_goRound_101 rfl (lv_at hl 4 rfl) ?_
        refine lv_iload_n hx hb dX0_goRound_102 rfl (lv_at hl 3 rfl) ?_
        refine lv_irem hx hb dX0_goRound_103 (ne0_of (by omega)) ?_
        refine lv_topi (fun z18623 ez18623 => ?_)
        have hz18623 := ar_remv ez18623 (by omega) (by omega)
        have rz18623 : 0 ≤ z18623.toInt ∧ z18623.toInt ≤ 47 := by omega
        refine t_ild X hT mb18619 gb18619 rfl (by omega) dX0_goRound_104 (fun z18624 vz18624 rz18624 => ?_)
        have rz18624 : (-2147483648) ≤ z18624.toInt ∧ z18624.toInt ≤ 2147483647 := rz18624
        refine lv_bipush (v := 8) hx hb dX0_goRound_105 (by decide) ?_
        refine lv_iadd hx hb dX0_goRound_107 ?_
        refine lv_topi (fun z18625 ez18625 => ?_)
        have rz18625 := rg_all z18625
        refine t_mmin X hl qw_1017 qw_1018 qw_850 qw_1019 (Nat.le_of_ble_eq_true rfl) (Nat.le_of_ble_eq_true rfl) (Nat.le_of_ble_eq_true rfl) (Nat.le_of_ble_eq_true rfl) dX0_goRound_108 (fun z18626 ez18626 => ?_)
        have hz18626 := mmin_e ez18626 (rfl : z18621.toInt = z18621.toInt) (rfl : z18625.toInt = z18625.toInt)
        refine t_ist X hT mb18619 gb18619 rfl (by omega) (show (-2147483648) ≤ (z18626 : Int32).toInt ∧ (z18626 : Int32).toInt ≤ 2147483647 from (by omega)) dX0_goRound_111 (fun F H locs hT v18627 h1v18627 h2v18627 => ?_)
        have hv18618 := (h2v18627 _ _).trans hv18618
        have hfr : ∀ b j : Nat, fld F b j = fld Fo b j := fun b j  => (h2v18627 b j).trans (hfr b j )
        obtain ⟨z18628, ez18628⟩ : ∃ y : Int32, y = z18612 + (-1) := ⟨_, rfl⟩
        have hz18628 : z18628.toInt = z18612.toInt + (-1) := ar_add ez18628 rfl (by decide : ((-1) : Int32).toInt = (-1)) (by omega) (by omega)
        refine lv_iinc (v := z18628) (lv' := [(3, .int z18628), (4, .int z18617), (0, .ref p0), (1, .int p1), (2, .int z18611)]) hx hb dX0_goRound_112 hl (k := 4) rfl (by rw [ez18628]; rfl) (by decide) rfl (fun ls hl => ?_)
        refine lv_goto (tgt := 73) hx hb dX0_goRound_115 (by decide) ?_
        exact ih73 z18611 z18628 _ _ _ _ (by omega) (by omega) (by omega) hT hfr  (lv_sub hl [2, 3, 4, 0] rfl)
  have K21 : ∀ (n : Nat) (z18629 : Int32) (z18630 : Int32) (F : Nat → va_E) (H : Heap) (locs : List Loc) (ls : Array Slot), (96 - z18630.toInt < (n : Int)) → (1 ≤ z18629.toInt ∧ z18629.toInt ≤ 48) → (0 ≤ z18630.toInt ∧ z18630.toInt ≤ 96) → TH G ttC A s tag L F H locs → (∀ b j : Nat, fld F b j = fld Fo b j) → lv_has ls 5 [(0, .ref p0), (1, .int p1), (2, .int z18629), (3, .int z18630)] → W p l e { frames := 1, cells := 0, slots := 0, locals := 15 } s m args below meth c H locs 0 0 Q (F0 m 21 ls []) := by
    intro n
    induction n with
    | zero =>
      intro z18629 z18630 F H locs ls hn rz18629 rz18630 hT hfr hl
      exfalso
      omega
    | succ n ih21 =>
      intro z18629 z18630 F H locs ls hn rz18629 rz18630 hT hfr hl
      refine lv_iload_n hx hb dX0_goRound_21 rfl (lv_at hl 3 rfl) ?_
      refine lv_iconst (v := 2) hx hb dX0_goRound_22 (by decide) ?_
      refine lv_iload_n hx hb dX0_goRound_23 rfl (lv_at hl 2 rfl) ?_
      refine lv_imul hx hb dX0_goRound_24 ?_
      refine lv_topi (fun z18631 ez18631 => ?_)
      have hz18631 : z18631.toInt = 2 * z18629.toInt := ar_mul ez18631 (by decide : (2 : Int32).toInt = 2) (rfl : z18629.toInt = z18629.toInt) (by omega) (by omega)
      have rz18631 : 2 ≤ z18631.toInt ∧ z18631.toInt ≤ 96 := by omega
      refine lv_icmp_ge (tgt := 69) hx hb dX0_goRound_25 (by decide) (fun c18632 => ?_) (fun c18632 => ?_)
      · have w18633 := cv_le (rfl : z18631.toInt = z18631.toInt) (rfl : z18630.toInt = z18630.toInt) c18632
        refine lv_iconst (v := 2) hx hb dX0_goRound_69 (by decide) ?_
        refine lv_iload_n hx hb dX0_goRound_70 rfl (lv_at hl 2 rfl) ?_
        refine lv_imul hx hb dX0_goRound_71 ?_
        refine lv_topi (fun z18634 ez18634 => ?_)
        have hz18634 : z18634.toInt = 2 * z18629.toInt := ar_mul ez18634 (by decide : (2 : Int32).toInt = 2) (rfl : z18629.toInt = z18629.toInt) (by omega) (by omega)
        have rz18634 : 2 ≤ z18634.toInt ∧ z18634.toInt ≤ 96 := by omega
        refine lv_istore_n (lv' := [(3, .int z18634), (0, .ref p0), (1, .int p1), (2, .int z18629)]) hx hb dX0_goRound_72 rfl hl (by decide) rfl (fun ls hl => ?_)
        exact K73 97 z18629 z18634 _ _ _ _ (by omega) (by omega) (by omega) hT hfr  (lv_sub hl [1, 2, 3, 0] rfl)
      · have w18635 := cv_nle (rfl : z18631.toInt = z18631.toInt) (rfl : z18630.toInt = z18630.toInt) c18632
        refine lv_iload_n hx hb dX0_goRound_28 rfl (lv_at hl 3 rfl) ?_
        refine lv_iconst (v := 1) hx hb dX0_goRound_29 (by decide) ?_
        refine lv_iadd hx hb dX0_goRound_30 ?_
        refine lv_topi (fun z18636 ez18636 => ?_)
        have hz18636 : z18636.toInt = z18630.toInt + 1 := ar_add ez18636 (rfl : z18630.toInt = z18630.toInt) (by decide : (1 : Int32).toInt = 1) (by omega) (by omega)
        have rz18636 : 1 ≤ z18636.toInt ∧ z18636.toInt ≤ 96 := by omega
        refine lv_iload_n hx hb dX0_goRound_31 rfl (lv_at hl 2 rfl) ?_
        refine lv_irem hx hb dX0_goRound_32 (ne0_of (by omega)) ?_
        refine lv_topi (fun z18637 ez18637 => ?_)
        have hz18637 := ar_remv ez18637 (by omega) (by omega)
        have rz18637 : 0 ≤ z18637.toInt ∧ z18637.toInt ≤ 47 := by omega
        refine lv_istore (lv' := [(4, .int z18637), (0, .ref p0), (1, .int p1), (2, .int z18629), (3, .int z18630)]) hx hb dX0_goRound_33 hl (by decide) rfl (fun ls hl => ?_)
        refine lv_aload_n hx hb dX0_goRound_35 rfl (lv_at hl 1 rfl) ?_
        refine t_get (C := RX0) (T := TX0) (N := 2) X hT m0 g0 rfl rfl 0 (by decide) qw_88 inlX0 rfl dX0_goRound_36 (fun v18638 hv18638 ov18638 => ?_)
        obtain ⟨b18639, rfl, mb18639, gb18639⟩ := okV_r ov18638
        have gb18639 : tag b18639 = 12 := tg_of gb18639
        refine lv_iload hx hb dX0_goRound_39 (lv_at hl 0 rfl) ?_
        refine lv_aload_n hx hb dX0_goRound_41 rfl (lv_at hl 1 rfl) ?_
        refine t_get (C := RX0) (T := TX0) (N := 2) X hT m0 g0 rfl rfl 0 (by decide) qw_88 inlX0 rfl dX0_goRound_42 (fun v18640 hv18640 ov18640 => ?_)
        obtain rfl : v18640 = .ref b18639 := hv18640.symm.trans hv18638
        refine lv_iload hx hb dX0_goRound_45 (lv_at hl 0 rfl) ?_
        refine t_ild X hT mb18639 gb18639 rfl (by omega) dX0_goRound_47 (fun z18641 vz18641 rz18641 => ?_)
        have rz18641 : (-2147483648) ≤ z18641.toInt ∧ z18641.toInt ≤ 2147483647 := rz18641
        refine lv_aload_n hx hb dX0_goRound_48 rfl (lv_at hl 1 rfl) ?_
        refine t_get (C := RX0) (T := TX0) (N := 2) X hT m0 g0 rfl rfl 0 (by decide) qw_88 inlX0 rfl dX0_goRound_49 (fun v18642 hv18642 ov18642 => ?_)
        obtain rfl : v18642 = .ref b18639 := hv18642.symm.trans hv18638
        refine lv_iload_n hx hb dX0_goRound_52 rfl (lv_at hl 4 rfl) ?_
        refine lv_iload_n hx hb dX0_goRound_53 rfl (lv_at hl 3 rfl) ?_
        refine lv_irem hx hb dX0_goRound_54 (ne0_of (by omega)) ?_
        refine lv_topi (fun z18643 ez18643 => ?_)
        have hz18643 := ar_remv ez18643 (by omega) (by omega)
        have rz18643 : 0 ≤ z18643.toInt ∧ z18643.toInt ≤ 47 := by omega
        refine t_ild X hT mb18639 gb18639 rfl (by omega) dX0_goRound_55 (fun z18644 vz18644 rz18644 => ?_)
        have rz18644 : (-2147483648) ≤ z18644.toInt ∧ z18644.toInt ≤ 2147483647 := rz18644
        refine lv_bipush (v := 8) hx hb dX0_goRound_56 (by decide) ?_
        refine lv_iadd hx hb dX0_goRound_58 ?_
        refine lv_topi (fun z18645 ez18645 => ?_)
        have rz18645 := rg_all z18645
        refine t_mmin X hl qw_1017 qw_1018 qw_850 qw_1019 (Nat.le_of_ble_eq_true rfl) (Nat.le_of_ble_eq_true rfl) (Nat.le_of_ble_eq_true rfl) (Nat.le_of_ble_eq_true rfl) dX0_goRound_59 (fun z18646 ez18646 => ?_)
        have hz18646 := mmin_e ez18646 (rfl : z18641.toInt = z18641.toInt) (rfl : z18645.toInt = z18645.toInt)
        refine t_ist X hT mb18639 gb18639 rfl (by omega) (show (-2147483648) ≤ (z18646 : Int32).toInt ∧ (z18646 : Int32).toInt ≤ 2147483647 from (by omega)) dX0_goRound_62 (fun F H locs hT v18647 h1v18647 h2v18647 => ?_)
        have hv18638 := (h2v18647 _ _).trans hv18638
        have hfr : ∀ b j : Nat, fld F b j = fld Fo b j := fun b j  => (h2v18647 b j).trans (hfr b j )
        obtain ⟨z18648, ez18648⟩ : ∃ y : Int32, y = z18630 + 1 := ⟨_, rfl⟩
        have hz18648 : z18648.toInt = z18630.toInt + 1 := ar_add ez18648 rfl (by decide : (1 : Int32).toInt = 1) (by omega) (by omega)
        refine lv_iinc (v := z18648) (lv' := [(3, .int z18648), (4, .int z18637), (0, .ref p0), (1, .int p1), (2, .int z18629)]) hx hb dX0_goRound_63 hl (k := 4) rfl (by rw [ez18648]; rfl) (by decide) rfl (fun ls hl => ?_)
        refine lv_goto (tgt := 21) hx hb dX0_goRound_66 (by decide) ?_
        exact ih21 z18629 z18648 _ _ _ _ (by omega) (by omega) (by omega) hT hfr  (lv_sub hl [2, 3, 4, 0] rfl)
  refine lv_bipush (v := 8) hx hb dX0_goRound_0 (by decide) ?_
  refine lv_iload_n hx hb dX0_goRound_2 rfl (lv_at hl 1 rfl) ?_
  refine lv_imul hx hb dX0_goRound_3 ?_
  refine lv_topi (fun z18649 ez18649 => ?_)
  have rz18649 := rg_all z18649
  refine lv_aload_n hx hb dX0_goRound_4 rfl (lv_at hl 0 rfl) ?_
  refine t_get (C := RX0) (T := TX0) (N := 2) X hT m0 g0 rfl rfl 0 (by decide) qw_88 inlX0 rfl dX0_goRound_5 (fun v18650 hv18650 ov18650 => ?_)
  obtain ⟨b18651, rfl, mb18651, gb18651⟩ := okV_r ov18650
  have gb18651 : tag b18651 = 12 := tg_of gb18651
  refine t_alen X hT mb18651 gb18651 rfl (by decide) dX0_goRound_8 ?_
  refine lv_topi (fun z18652 ez18652 => ?_)
  obtain rfl : z18652 = 48 := ez18652.trans (by rfl)
  refine t_mmin X hl qw_1017 qw_1018 qw_850 qw_1019 (Nat.le_of_ble_eq_true rfl) (Nat.le_of_ble_eq_true rfl) (Nat.le_of_ble_eq_true rfl) (Nat.le_of_ble_eq_true rfl) dX0_goRound_9 (fun z18653 ez18653 => ?_)
  have hz18653 := mmin_e ez18653 (rfl : z18649.toInt = z18649.toInt) (by decide : (48 : Int32).toInt = 48)
  refine lv_istore_n (lv' := [(2, .int z18653), (0, .ref p0), (1, .int p1)]) hx hb dX0_goRound_12 rfl hl (by decide) rfl (fun ls hl => ?_)
  refine lv_iload_n hx hb dX0_goRound_13 rfl (lv_at hl 0 rfl) ?_
  refine lv_iconst (v := 1) hx hb dX0_goRound_14 (by decide) ?_
  refine lv_icmp_ge (tgt := 19) hx hb dX0_goRound_15 (by decide) (fun c18654 => ?_) (fun c18654 => ?_)
  · have w18655 := cv_le (by decide : (1 : Int32).toInt = 1) (rfl : z18653.toInt = z18653.toInt) c18654
    refine lv_iconst (v := 0) hx hb dX0_goRound_19 (by decide) ?_
    refine lv_istore_n (lv' := [(3, .int 0), (2, .int z18653), (0, .ref p0), (1, .int p1)]) hx hb dX0_goRound_20 rfl hl (by decide) rfl (fun ls hl => ?_)
    have kk18656 : (0 : Int32).toInt = 0 := by decide
    exact K21 97 z18653 0 _ _ _ _ (by omega) (by omega) (by decide) hT hfr  (lv_sub hl [2, 3, 1, 0] rfl)
  · have w18657 := cv_nle (by decide : (1 : Int32).toInt = 1) (rfl : z18653.toInt = z18653.toInt) c18654
    exact t_vret hQ X hT hfr (Nat.le_of_ble_eq_true rfl) (Nat.le_of_ble_eq_true rfl) dX0_goRound_18
set_option maxHeartbeats 4000000 in
set_option maxRecDepth 100000 in
theorem kt63_X0_least (l : Launch) (G : KG) (tag : Nat → Nat) (L : List Nat) (F : Nat → va_E) (ho : okT G ttC tag L F) (p0 : Nat) (p1 : Int32) (m0 : p0 ∈ L) (g0 : tag p0 = 21) : TMi l yX0_least cX0_least 4 (some .int) { frames := 1, cells := 0, slots := 0, locals := 13 } G ttC tag L F [.ref p0, .int p1] (fun r F1 => F1 = F ∧ ((-2147483648) ≤ r.toInt ∧ r.toInt ≤ 1000000)) := by
  refine t_bodyi (y := yX0_least) (cd := cX0_least) (mL := 4) (rt := (some .int)) (rm := { frames := 1, cells := 0, slots := 0, locals := 13 }) (av := [.ref p0, .int p1]) (by decide) (Nat.le_of_ble_eq_true rfl) ho ?_
  intro p e s m args below meth c ls A Q hQ X hT hl
  have hx := X.1.1
  have hb := X.1.2.1
  have hl : lv_has ls 4 [(0, .ref p0), (1, .int p1)] := hl
  have rp1 := rg_all p1
  have K5 : ∀ (n : Nat) (z19008 : Int32) (z19009 : Int32) (H : Heap) (locs : List Loc) (ls : Array Slot), (48 - z19009.toInt < (n : Int)) → ((-2147483648) ≤ z19008.toInt ∧ z19008.toInt ≤ 1000000) → (0 ≤ z19009.toInt ∧ z19009.toInt ≤ 48) → TH G ttC A s tag L F H locs → lv_has ls 4 [(0, .ref p0), (1, .int p1), (2, .int z19008), (3, .int z19009)] → W p l e { frames := 1, cells := 0, slots := 0, locals := 13 } s m args below meth c H locs 0 0 Q (F0 m 5 ls []) := by
    intro n
    induction n with
    | zero =>
      intro z19008 z19009 H locs ls hn rz19008 rz19009 hT hl
      exfalso
      omega
    | succ n ih5 =>
      intro z19008 z19009 H locs ls hn rz19008 rz19009 hT hl
      refine lv_iload_n hx hb dX0_least_5 rfl (lv_at hl 3 rfl) ?_
      refine lv_iload_n hx hb dX0_least_6 rfl (lv_at hl 1 rfl) ?_
      refine lv_icmp_ge (tgt := 36) hx hb dX0_least_7 (by decide) (fun c19010 => ?_) (fun c19010 => ?_)
      · have w19011 := cv_le (rfl : p1.toInt = p1.toInt) (rfl : z19009.toInt = z19009.toInt) c19010
        refine lv_iload_n hx hb dX0_least_36 rfl (lv_at hl 2 rfl) ?_
        exact t_iret hQ X hT (⟨rfl, (by omega)⟩) (Nat.le_of_ble_eq_true rfl) (Nat.le_of_ble_eq_true rfl) dX0_least_37
      · have w19012 := cv_nle (rfl : p1.toInt = p1.toInt) (rfl : z19009.toInt = z19009.toInt) c19010
        refine lv_iload_n hx hb dX0_least_10 rfl (lv_at hl 3 rfl) ?_
        refine lv_aload_n hx hb dX0_least_11 rfl (lv_at hl 0 rfl) ?_
        refine t_get (C := RX0) (T := TX0) (N := 2) X hT m0 g0 rfl rfl 0 (by decide) qw_88 inlX0 rfl dX0_least_12 (fun v19013 hv19013 ov19013 => ?_)
        obtain ⟨b19014, rfl, mb19014, gb19014⟩ := okV_r ov19013
        have gb19014 : tag b19014 = 12 := tg_of gb19014
        refine t_alen X hT mb19014 gb19014 rfl (by decide) dX0_least_15 ?_
        refine lv_topi (fun z19015 ez19015 => ?_)
        obtain rfl : z19015 = 48 := ez19015.trans (by rfl)
        refine lv_icmp_ge (tgt := 36) hx hb dX0_least_16 (by decide) (fun c19016 => ?_) (fun c19016 => ?_)
        · have w19017 := cv_le (by decide : (48 : Int32).toInt = 48) (rfl : z19009.toInt = z19009.toInt) c19016
          refine lv_iload_n hx hb dX0_least_36 rfl (lv_at hl 2 rfl) ?_
          exact t_iret hQ X hT (⟨rfl, (by omega)⟩) (Nat.le_of_ble_eq_true rfl) (Nat.le_of_ble_eq_true rfl) dX0_least_37
        · have w19018 := cv_nle (by decide : (48 : Int32).toInt = 48) (rfl : z19009.toInt = z19009.toInt) c19016
          refine lv_iload_n hx hb dX0_least_19 rfl (lv_at hl 2 rfl) ?_
          refine lv_aload_n hx hb dX0_least_20 rfl (lv_at hl 0 rfl) ?_
          refine t_get (C := RX0) (T := TX0) (N := 2) X hT m0 g0 rfl rfl 0 (by decide) qw_88 inlX0 rfl dX0_least_21 (fun v19019 hv19019 ov19019 => ?_)
          obtain rfl : v19019 = .ref b19014 := hv19019.symm.trans hv19013
          refine lv_iload_n hx hb dX0_least_24 rfl (lv_at hl 3 rfl) ?_
          refine t_ild X hT mb19014 gb19014 rfl (by omega) dX0_least_25 (fun z19020 vz19020 rz19020 => ?_)
          have rz19020 : (-2147483648) ≤ z19020.toInt ∧ z19020.toInt ≤ 2147483647 := rz19020
          refine t_mmin X hl qw_1017 qw_1018 qw_850 qw_1019 (Nat.le_of_ble_eq_true rfl) (Nat.le_of_ble_eq_true rfl) (Nat.le_of_ble_eq_true rfl) (Nat.le_of_ble_eq_true rfl) dX0_least_26 (fun z19021 ez19021 => ?_)
          have hz19021 := mmin_e ez19021 (rfl : z19008.toInt = z19008.toInt) (rfl : z19020.toInt = z19020.toInt)
          refine lv_istore_n (lv' := [(2, .int z19021), (0, .ref p0), (1, .int p1), (3, .int z19009)]) hx hb dX0_least_29 rfl hl (by decide) rfl (fun ls hl => ?_)
          obtain ⟨z19022, ez19022⟩ : ∃ y : Int32, y = z19009 + 1 := ⟨_, rfl⟩
          have hz19022 : z19022.toInt = z19009.toInt + 1 := ar_add ez19022 rfl (by decide : (1 : Int32).toInt = 1) (by omega) (by omega)
          refine lv_iinc (v := z19022) (lv' := [(3, .int z19022), (2, .int z19021), (0, .ref p0), (1, .int p1)]) hx hb dX0_least_30 hl (k := 3) rfl (by rw [ez19022]; rfl) (by decide) rfl (fun ls hl => ?_)
          refine lv_goto (tgt := 5) hx hb dX0_least_33 (by decide) ?_
          exact ih5 z19021 z19022 _ _ _ (by omega) (by omega) (by omega) hT  (lv_sub hl [2, 3, 1, 0] rfl)
  refine m_ldc X qw_1023 dX0_least_0 ?_
  refine lv_istore_n (lv' := [(2, .int 1000000), (0, .ref p0), (1, .int p1)]) hx hb dX0_least_2 rfl hl (by decide) rfl (fun ls hl => ?_)
  refine lv_iconst (v := 0) hx hb dX0_least_3 (by decide) ?_
  refine lv_istore_n (lv' := [(3, .int 0), (2, .int 1000000), (0, .ref p0), (1, .int p1)]) hx hb dX0_least_4 rfl hl (by decide) rfl (fun ls hl => ?_)
  have kk19023 : (1000000 : Int32).toInt = 1000000 := by decide
  have kk19024 : (0 : Int32).toInt = 0 := by decide
  exact K5 49 1000000 0 _ _ _ (by omega) (by decide) (by decide) hT  (lv_sub hl [2, 3, 1, 0] rfl)
set_option maxHeartbeats 4000000 in
set_option maxRecDepth 100000 in
theorem kt64_X10_burn (l : Launch) (G : KG) (tag : Nat → Nat) (L : List Nat) (Fo : Nat → va_E) (ho : okT G ttC tag L Fo) (p0 : Nat) (p1 : Nat) (p2 : Int32) (m0 : p0 ∈ L) (g0 : tag p0 = 18) (m1 : p1 ∈ L) (g1 : tag p1 = 19) (h2 : 0 ≤ p2.toInt ∧ p2.toInt ≤ 3) : TMv l yX10_burn cX10_burn 5 { frames := 1, cells := 0, slots := 0, locals := 25 } G ttC tag L Fo [.ref p0, .ref p1, .int p2] (fun F1 => ∀ b j : Nat, fld F1 b j = fld Fo b j) := by
  refine t_bodyv (y := yX10_burn) (cd := cX10_burn) (mL := 5) (rm := { frames := 1, cells := 0, slots := 0, locals := 25 }) (av := [.ref p0, .ref p1, .int p2]) (by decide) (Nat.le_of_ble_eq_true rfl) ho ?_
  intro p e s m args below meth c ls A Q hQ X hT hl
  have hx := X.1.1
  have hb := X.1.2.1
  have hl : lv_has ls 5 [(0, .ref p0), (1, .ref p1), (2, .int p2)] := hl
  obtain ⟨F, hFo⟩ : ∃ F : Nat → va_E, F = Fo := ⟨_, rfl⟩
  rw [← hFo] at hT
  have hfr : ∀ b j : Nat, fld F b j = fld Fo b j := by
    rw [hFo]
    intros
    rfl
  have K2 : ∀ (n : Nat) (z19503 : Int32) (F : Nat → va_E) (H : Heap) (locs : List Loc) (ls : Array Slot), (7 - z19503.toInt < (n : Int)) → (1 ≤ z19503.toInt ∧ z19503.toInt ≤ 7) → TH G ttC A s tag L F H locs → (∀ b j : Nat, fld F b j = fld Fo b j) → lv_has ls 5 [(0, .ref p0), (1, .ref p1), (2, .int p2), (3, .int z19503)] → W p l e { frames := 1, cells := 0, slots := 0, locals := 25 } s m args below meth c H locs 0 0 Q (F0 m 2 ls []) := by
    intro n
    induction n with
    | zero =>
      intro z19503 F H locs ls hn rz19503 hT hfr hl
      exfalso
      omega
    | succ n ih2 =>
      intro z19503 F H locs ls hn rz19503 hT hfr hl
      have K59 : ∀ (z19505 : Int32) (F : Nat → va_E) (H : Heap) (locs : List Loc) (ls : Array Slot), (0 ≤ z19505.toInt ∧ z19505.toInt ≤ 1) → (1 ≤ z19503.toInt ∧ z19503.toInt ≤ 6) → TH G ttC A s tag L F H locs → (∀ b j : Nat, fld F b j = fld Fo b j) → lv_has ls 5 [(0, .ref p0), (1, .ref p1), (2, .int p2), (3, .int z19503), (4, .int z19505)] → W p l e { frames := 1, cells := 0, slots := 0, locals := 25 } s m args below meth c H locs 0 0 Q (F0 m 59 ls []) := by
        intro z19505 F H locs ls rz19505 r9s19504 hT hfr hl
        obtain ⟨z19506, ez19506⟩ : ∃ y : Int32, y = z19503 + 1 := ⟨_, rfl⟩
        have hz19506 : z19506.toInt = z19503.toInt + 1 := ar_add ez19506 rfl (by decide : (1 : Int32).toInt = 1) (by omega) (by omega)
        refine lv_iinc (v := z19506) (lv' := [(3, .int z19506), (0, .ref p0), (1, .ref p1), (2, .int p2), (4, .int z19505)]) hx hb dX10_burn_59 hl (k := 3) rfl (by rw [ez19506]; rfl) (by decide) rfl (fun ls hl => ?_)
        refine lv_goto (tgt := 2) hx hb dX10_burn_62 (by decide) ?_
        exact ih2 z19506 _ _ _ _ (by omega) (by omega) hT hfr  (lv_sub hl [1, 2, 3, 0] rfl)
      have K33 : ∀ (z19508 : Int32) (F : Nat → va_E) (H : Heap) (locs : List Loc) (ls : Array Slot), (0 ≤ z19508.toInt ∧ z19508.toInt ≤ 1) → (1 ≤ z19503.toInt ∧ z19503.toInt ≤ 6) → TH G ttC A s tag L F H locs → (∀ b j : Nat, fld F b j = fld Fo b j) → lv_has ls 5 [(0, .ref p0), (1, .ref p1), (2, .int p2), (3, .int z19503)] → W p l e { frames := 1, cells := 0, slots := 0, locals := 25 } s m args below meth c H locs 0 0 Q (F0 m 33 ls [.int z19508]) := by
        intro z19508 F H locs ls rz19508 r9s19507 hT hfr hl
        refine lv_istore (lv' := [(4, .int z19508), (0, .ref p0), (1, .ref p1), (2, .int p2), (3, .int z19503)]) hx hb dX10_burn_33 hl (by decide) rfl (fun ls hl => ?_)
        refine lv_iload hx hb dX10_burn_35 (lv_at hl 0 rfl) ?_
        refine lv_if_eq (tgt := 59) hx hb dX10_burn_37 (by decide) (fun c19509 => ?_) (fun c19509 => ?_)
        · have w19510 := cv_eq (rfl : z19508.toInt = z19508.toInt) (by decide : (0 : Int32).toInt = 0) c19509
          exact K59 z19508 _ _ _ _ (by omega) (by omega) hT hfr  (lv_sub hl [1, 2, 3, 4, 0] rfl)
        · have w19511 := cv_ne (rfl : z19508.toInt = z19508.toInt) (by decide : (0 : Int32).toInt = 0) c19509
          refine lv_aload_n hx hb dX10_burn_40 rfl (lv_at hl 2 rfl) ?_
          refine lv_iload_n hx hb dX10_burn_41 rfl (lv_at hl 3 rfl) ?_
          refine lv_iload_n hx hb dX10_burn_42 rfl (lv_at hl 4 rfl) ?_
          refine lv_bipush (v := 6) hx hb dX10_burn_43 (by decide) ?_
          refine t_cVi (n := 3) (C := RX7) (T := TX7) (N := 7) (As := [.int p2, .int z19503, .int 6]) (rest := []) X hT (kt19_X7_partOf l G tag L F hT.2.2.2 p1 p2 z19503 6 m1 g1) m1 g1 rfl rfl qw_1121 qw_778 qw_779 qw_22 qw_780 ⟨rfl, by decide +kernel, by decide +kernel, by decide +kernel⟩ ⟨Nat.le_of_ble_eq_true rfl, Nat.le_of_ble_eq_true rfl⟩ hl rfl rfl (Nat.le_of_ble_eq_true rfl) dX10_burn_45 ⟨Nat.le_of_ble_eq_true rfl, Nat.le_of_ble_eq_true rfl⟩ (fun z19512 F9 H locs hT hz19512 => ?_)
          obtain ⟨fz19512, hz19512⟩ := hz19512
          rw [fz19512] at hT
          refine lv_if_ne (tgt := 59) hx hb dX10_burn_48 (by decide) (fun c19513 => ?_) (fun c19513 => ?_)
          · have w19514 := cv_ne (rfl : z19512.toInt = z19512.toInt) (by decide : (0 : Int32).toInt = 0) c19513
            exact K59 z19508 _ _ _ _ (by omega) (by omega) hT hfr  (lv_sub hl [1, 2, 3, 4, 0] rfl)
          · have w19515 := cv_eq (rfl : z19512.toInt = z19512.toInt) (by decide : (0 : Int32).toInt = 0) c19513
            refine lv_aload_n hx hb dX10_burn_51 rfl (lv_at hl 2 rfl) ?_
            refine lv_iload_n hx hb dX10_burn_52 rfl (lv_at hl 3 rfl) ?_
            refine lv_iload_n hx hb dX10_burn_53 rfl (lv_at hl 4 rfl) ?_
            refine lv_iconst (v := 5) hx hb dX10_burn_54 (by decide) ?_
            refine lv_iconst (v := 1) hx hb dX10_burn_55 (by decide) ?_
            refine t_cVv (n := 4) (C := RX7) (T := TX7) (N := 7) (As := [.int p2, .int z19503, .int 5, .int 1]) (rest := []) X hT (kt17_X7_setPart l G tag L F hT.2.2.2 p1 p2 z19503 5 1 m1 g1) m1 g1 rfl rfl qw_1124 qw_423 qw_424 qw_22 qw_425 ⟨rfl, by decide +kernel, by decide +kernel, by decide +kernel⟩ ⟨Nat.le_of_ble_eq_true rfl, Nat.le_of_ble_eq_true rfl⟩ hl rfl rfl (Nat.le_of_ble_eq_true rfl) dX10_burn_56 ⟨Nat.le_of_ble_eq_true rfl, Nat.le_of_ble_eq_true rfl⟩ (fun F H locs hT hz19516 => ?_)
            have yz19516 := hz19516
            have hfr : ∀ b j : Nat, fld F b j = fld Fo b j := fun b j  => (yz19516 b j ).trans (hfr b j )
            exact K59 z19508 _ _ _ _ (by omega) (by omega) hT hfr  (lv_sub hl [1, 2, 3, 4, 0] rfl)
      refine lv_iload_n hx hb dX10_burn_2 rfl (lv_at hl 3 rfl) ?_
      refine lv_aload_n hx hb dX10_burn_3 rfl (lv_at hl 1 rfl) ?_
      refine t_get (C := RX7) (T := TX7) (N := 7) X hT m1 g1 rfl rfl 2 (by decide) qw_1119 inlX7 rfl dX10_burn_4 (fun v19517 hv19517 ov19517 => ?_)
      obtain ⟨b19518, rfl, mb19518, gb19518⟩ := okV_r ov19517
      have gb19518 : tag b19518 = 8 := tg_of gb19518
      refine lv_iload_n hx hb dX10_burn_7 rfl (lv_at hl 2 rfl) ?_
      refine t_ild X hT mb19518 gb19518 rfl (by omega) dX10_burn_8 (fun z19519 vz19519 rz19519 => ?_)
      have rz19519 : 0 ≤ z19519.toInt ∧ z19519.toInt ≤ 6 := rz19519
      refine lv_icmp_gt (tgt := 65) hx hb dX10_burn_9 (by decide) (fun c19520 => ?_) (fun c19520 => ?_)
      · have w19521 := cv_lt (rfl : z19519.toInt = z19519.toInt) (rfl : z19503.toInt = z19503.toInt) c19520
        exact t_vret hQ X hT hfr (Nat.le_of_ble_eq_true rfl) (Nat.le_of_ble_eq_true rfl) dX10_burn_65
      · have w19522 := cv_nlt (rfl : z19519.toInt = z19519.toInt) (rfl : z19503.toInt = z19503.toInt) c19520
        refine lv_aload_n hx hb dX10_burn_12 rfl (lv_at hl 0 rfl) ?_
        refine lv_aload_n hx hb dX10_burn_13 rfl (lv_at hl 1 rfl) ?_
        refine lv_iload_n hx hb dX10_burn_14 rfl (lv_at hl 2 rfl) ?_
        refine lv_iload_n hx hb dX10_burn_15 rfl (lv_at hl 3 rfl) ?_
        refine lv_iconst (v := 0) hx hb dX10_burn_16 (by decide) ?_
        refine t_cVi (n := 3) (C := RX7) (T := TX7) (N := 7) (As := [.int p2, .int z19503, .int 0]) (rest := [.ref p0]) X hT (kt19_X7_partOf l G tag L F hT.2.2.2 p1 p2 z19503 0 m1 g1) m1 g1 rfl rfl qw_1121 qw_778 qw_779 qw_22 qw_780 ⟨rfl, by decide +kernel, by decide +kernel, by decide +kernel⟩ ⟨Nat.le_of_ble_eq_true rfl, Nat.le_of_ble_eq_true rfl⟩ hl rfl rfl (Nat.le_of_ble_eq_true rfl) dX10_burn_17 ⟨Nat.le_of_ble_eq_true rfl, Nat.le_of_ble_eq_true rfl⟩ (fun z19523 F9 H locs hT hz19523 => ?_)
        obtain ⟨fz19523, hz19523⟩ := hz19523
        rw [fz19523] at hT
        refine lv_iconst (v := 0) hx hb dX10_burn_20 (by decide) ?_
        refine t_cVi (n := 2) (C := RX1) (T := TX1) (N := 20) (As := [.int z19523, .int 0]) (rest := []) X hT (kt48_X1_stonePart l G tag L F hT.2.2.2 p0 z19523 0 m0 g0) m0 g0 rfl rfl qw_1122 qw_858 qw_859 qw_17 qw_860 ⟨rfl, by decide +kernel, by decide +kernel, by decide +kernel⟩ ⟨Nat.le_of_ble_eq_true rfl, Nat.le_of_ble_eq_true rfl⟩ hl rfl rfl (Nat.le_of_ble_eq_true rfl) dX10_burn_21 ⟨Nat.le_of_ble_eq_true rfl, Nat.le_of_ble_eq_true rfl⟩ (fun z19524 F9 H locs hT hz19524 => ?_)
        obtain ⟨fz19524, hz19524⟩ := hz19524
        rw [fz19524] at hT
        refine lv_iconst (v := 2) hx hb dX10_burn_24 (by decide) ?_
        refine lv_icmp_ne (tgt := 32) hx hb dX10_burn_25 (by decide) (fun c19525 => ?_) (fun c19525 => ?_)
        · have w19526 := cv_ne (rfl : z19524.toInt = z19524.toInt) (by decide : (2 : Int32).toInt = 2) c19525
          refine lv_iconst (v := 0) hx hb dX10_burn_32 (by decide) ?_
          exact K33 0 _ _ _ _ (by decide) (by omega) hT hfr  (lv_sub hl [0, 1, 2, 3] rfl)
        · have w19527 := cv_eq (rfl : z19524.toInt = z19524.toInt) (by decide : (2 : Int32).toInt = 2) c19525
          refine lv_iconst (v := 1) hx hb dX10_burn_28 (by decide) ?_
          refine lv_goto (tgt := 33) hx hb dX10_burn_29 (by decide) ?_
          exact K33 1 _ _ _ _ (by decide) (by omega) hT hfr  (lv_sub hl [0, 1, 2, 3] rfl)
  refine lv_iconst (v := 1) hx hb dX10_burn_0 (by decide) ?_
  refine lv_istore_n (lv' := [(3, .int 1), (0, .ref p0), (1, .ref p1), (2, .int p2)]) hx hb dX10_burn_1 rfl hl (by decide) rfl (fun ls hl => ?_)
  have kk19528 : (1 : Int32).toInt = 1 := by decide
  exact K2 7 1 _ _ _ _ (by omega) (by decide) hT hfr  (lv_sub hl [1, 2, 3, 0] rfl)
set_option maxHeartbeats 4000000 in
set_option maxRecDepth 100000 in
theorem kt65_X6_priceOf (l : Launch) (G : KG) (tag : Nat → Nat) (L : List Nat) (F : Nat → va_E) (ho : okT G ttC tag L F) (p0 : Nat) (p1 : Nat) (p2 : Int32) (p3 : Int32) (m0 : p0 ∈ L) (g0 : tag p0 = 18) (m1 : p1 ∈ L) (g1 : tag p1 = 19) (h2 : 0 ≤ p2.toInt ∧ p2.toInt ≤ 3) : TMi l yX6_priceOf cX6_priceOf 4 (some .int) { frames := 1, cells := 0, slots := 0, locals := 23 } G ttC tag L F [.ref p0, .ref p1, .int p2, .int p3] (fun r F1 => F1 = F ∧ ((-2147483648) ≤ r.toInt ∧ r.toInt ≤ 2147483647)) := by
  refine t_bodyi (y := yX6_priceOf) (cd := cX6_priceOf) (mL := 4) (rt := (some .int)) (rm := { frames := 1, cells := 0, slots := 0, locals := 23 }) (av := [.ref p0, .ref p1, .int p2, .int p3]) (by decide) (Nat.le_of_ble_eq_true rfl) ho ?_
  intro p e s m args below meth c ls A Q hQ X hT hl
  have hx := X.1.1
  have hb := X.1.2.1
  have hl : lv_has ls 4 [(0, .ref p0), (1, .ref p1), (2, .int p2), (3, .int p3)] := hl
  have rp3 := rg_all p3
  refine lv_aload_n hx hb dX6_priceOf_0 rfl (lv_at hl 0 rfl) ?_
  refine lv_iload_n hx hb dX6_priceOf_1 rfl (lv_at hl 3 rfl) ?_
  refine lv_iconst (v := 1) hx hb dX6_priceOf_2 (by decide) ?_
  refine t_cVi (n := 2) (C := RX1) (T := TX1) (N := 20) (As := [.int p3, .int 1]) (rest := []) X hT (kt48_X1_stonePart l G tag L F hT.2.2.2 p0 p3 1 m0 g0) m0 g0 rfl rfl qw_962 qw_858 qw_859 qw_17 qw_860 ⟨rfl, by decide +kernel, by decide +kernel, by decide +kernel⟩ ⟨Nat.le_of_ble_eq_true rfl, Nat.le_of_ble_eq_true rfl⟩ hl rfl rfl (Nat.le_of_ble_eq_true rfl) dX6_priceOf_3 ⟨Nat.le_of_ble_eq_true rfl, Nat.le_of_ble_eq_true rfl⟩ (fun z19609 F9 H locs hT hz19609 => ?_)
  obtain ⟨fz19609, hz19609⟩ := hz19609
  rw [fz19609] at hT
  refine lv_bipush (v := 8) hx hb dX6_priceOf_6 (by decide) ?_
  refine lv_imul hx hb dX6_priceOf_8 ?_
  refine lv_topi (fun z19610 ez19610 => ?_)
  have rz19610 := rg_all z19610
  refine lv_aload_n hx hb dX6_priceOf_9 rfl (lv_at hl 1 rfl) ?_
  refine t_get (C := RX7) (T := TX7) (N := 7) X hT m1 g1 rfl rfl 2 (by decide) qw_383 inlX7 rfl dX6_priceOf_10 (fun v19611 hv19611 ov19611 => ?_)
  obtain ⟨b19612, rfl, mb19612, gb19612⟩ := okV_r ov19611
  have gb19612 : tag b19612 = 8 := tg_of gb19612
  refine lv_iload_n hx hb dX6_priceOf_13 rfl (lv_at hl 2 rfl) ?_
  refine t_ild X hT mb19612 gb19612 rfl (by omega) dX6_priceOf_14 (fun z19613 vz19613 rz19613 => ?_)
  have rz19613 : 0 ≤ z19613.toInt ∧ z19613.toInt ≤ 6 := rz19613
  refine lv_iconst (v := 1) hx hb dX6_priceOf_15 (by decide) ?_
  refine lv_iadd hx hb dX6_priceOf_16 ?_
  refine lv_topi (fun z19614 ez19614 => ?_)
  have hz19614 : z19614.toInt = z19613.toInt + 1 := ar_add ez19614 (rfl : z19613.toInt = z19613.toInt) (by decide : (1 : Int32).toInt = 1) (by omega) (by omega)
  have rz19614 : 1 ≤ z19614.toInt ∧ z19614.toInt ≤ 7 := by omega
  refine lv_imul hx hb dX6_priceOf_17 ?_
  refine lv_topi (fun z19615 ez19615 => ?_)
  have rz19615 := rg_all z19615
  exact t_iret hQ X hT (⟨rfl, rg_all _⟩) (Nat.le_of_ble_eq_true rfl) (Nat.le_of_ble_eq_true rfl) dX6_priceOf_18
set_option maxHeartbeats 4000000 in
set_option maxRecDepth 100000 in
theorem kt66_X6_isFit (l : Launch) (G : KG) (tag : Nat → Nat) (L : List Nat) (F : Nat → va_E) (ho : okT G ttC tag L F) (p0 : Nat) (p1 : Nat) (p2 : Int32) (m0 : p0 ∈ L) (g0 : tag p0 = 18) (m1 : p1 ∈ L) (g1 : tag p1 = 19) (h2 : 0 ≤ p2.toInt ∧ p2.toInt ≤ 3) : TMi l yX6_isFit cX6_isFit 9 (some .boolean) { frames := 2, cells := 0, slots := 0, locals := 52 } G ttC tag L F [.ref p0, .ref p1, .int p2] (fun r F1 => F1 = F ∧ (0 ≤ r.toInt ∧ r.toInt ≤ 1)) := by
  refine t_bodyi (y := yX6_isFit) (cd := cX6_isFit) (mL := 9) (rt := (some .boolean)) (rm := { frames := 2, cells := 0, slots := 0, locals := 52 }) (av := [.ref p0, .ref p1, .int p2]) (by decide) (Nat.le_of_ble_eq_true rfl) ho ?_
  intro p e s m args below meth c ls A Q hQ X hT hl
  have hx := X.1.1
  have hb := X.1.2.1
  have hl : lv_has ls 9 [(0, .ref p0), (1, .ref p1), (2, .int p2)] := hl
  have K66 : ∀ (n : Nat) (z20373 : Int32) (z20374 : Int32) (z20375 : Int32) (z20376 : Int32) (H : Heap) (locs : List Loc) (ls : Array Slot), (48 - z20376.toInt < (n : Int)) → (1 ≤ z20373.toInt ∧ z20373.toInt ≤ 6) → (0 ≤ z20374.toInt ∧ z20374.toInt ≤ 11) → (0 ≤ z20375.toInt ∧ z20375.toInt ≤ 11) → (0 ≤ z20376.toInt ∧ z20376.toInt ≤ 48) → TH G ttC A s tag L F H locs → lv_has ls 9 [(0, .ref p0), (1, .ref p1), (2, .int p2), (3, .int z20373), (4, .int z20374), (5, .int z20375), (6, .int z20376)] → W p l e { frames := 2, cells := 0, slots := 0, locals := 52 } s m args below meth c H locs 0 0 Q (F0 m 66 ls []) := by
    intro n
    induction n with
    | zero =>
      intro z20373 z20374 z20375 z20376 H locs ls hn rz20373 rz20374 rz20375 rz20376 hT hl
      exfalso
      omega
    | succ n ih66 =>
      intro z20373 z20374 z20375 z20376 H locs ls hn rz20373 rz20374 rz20375 rz20376 hT hl
      refine lv_iload hx hb dX6_isFit_66 (lv_at hl 6 rfl) ?_
      refine lv_bipush (v := 8) hx hb dX6_isFit_68 (by decide) ?_
      refine lv_iload_n hx hb dX6_isFit_70 rfl (lv_at hl 3 rfl) ?_
      refine lv_imul hx hb dX6_isFit_71 ?_
      refine lv_topi (fun z20377 ez20377 => ?_)
      have hz20377 : z20377.toInt = 8 * z20373.toInt := ar_mul ez20377 (by decide : (8 : Int32).toInt = 8) (rfl : z20373.toInt = z20373.toInt) (by omega) (by omega)
      have rz20377 : 8 ≤ z20377.toInt ∧ z20377.toInt ≤ 48 := by omega
      refine lv_icmp_ge (tgt := 129) hx hb dX6_isFit_72 (by decide) (fun c20378 => ?_) (fun c20378 => ?_)
      · have w20379 := cv_le (rfl : z20377.toInt = z20377.toInt) (rfl : z20376.toInt = z20376.toInt) c20378
        refine lv_iconst (v := 1) hx hb dX6_isFit_129 (by decide) ?_
        exact t_zret hQ X hT (by decide) (⟨rfl, (by decide)⟩) (Nat.le_of_ble_eq_true rfl) (Nat.le_of_ble_eq_true rfl) dX6_isFit_130
      · have w20380 := cv_nle (rfl : z20377.toInt = z20377.toInt) (rfl : z20376.toInt = z20376.toInt) c20378
        refine lv_iload hx hb dX6_isFit_75 (lv_at hl 4 rfl) ?_
        refine lv_iload_n hx hb dX6_isFit_77 rfl (lv_at hl 3 rfl) ?_
        refine lv_iload hx hb dX6_isFit_78 (lv_at hl 6 rfl) ?_
        refine t_cSi (n := 2) (As := [.int z20373, .int z20376]) (rest := [.int z20374]) X hT (kt43_X4_eastOf l G tag L F hT.2.2.2 z20373 z20376 ) qw_407 qw_408 qw_409 qw_410 ⟨by decide +kernel, by decide +kernel, by decide +kernel⟩ ⟨Nat.le_of_ble_eq_true rfl, Nat.le_of_ble_eq_true rfl⟩ hl rfl rfl (Nat.le_of_ble_eq_true rfl) dX6_isFit_80 ⟨Nat.le_of_ble_eq_true rfl, Nat.le_of_ble_eq_true rfl⟩ (fun z20381 F9 H locs hT hz20381 => ?_)
        obtain ⟨fz20381, hz20381⟩ := hz20381
        rw [fz20381] at hT
        refine lv_iadd hx hb dX6_isFit_83 ?_
        refine lv_topi (fun z20382 ez20382 => ?_)
        have rz20382 := rg_all z20382
        refine lv_istore (lv' := [(7, .int z20382), (0, .ref p0), (1, .ref p1), (2, .int p2), (3, .int z20373), (4, .int z20374), (5, .int z20375), (6, .int z20376)]) hx hb dX6_isFit_84 hl (by decide) rfl (fun ls hl => ?_)
        refine lv_iload hx hb dX6_isFit_86 (lv_at hl 6 rfl) ?_
        refine lv_iload_n hx hb dX6_isFit_88 rfl (lv_at hl 4 rfl) ?_
        refine lv_iload hx hb dX6_isFit_89 (lv_at hl 7 rfl) ?_
        refine t_cSi (n := 2) (As := [.int z20373, .int z20376]) (rest := [.int z20375]) X hT (kt44_X4_southOf l G tag L F hT.2.2.2 z20373 z20376 ) qw_411 qw_412 qw_409 qw_413 ⟨by decide +kernel, by decide +kernel, by decide +kernel⟩ ⟨Nat.le_of_ble_eq_true rfl, Nat.le_of_ble_eq_true rfl⟩ hl rfl rfl (Nat.le_of_ble_eq_true rfl) dX6_isFit_91 ⟨Nat.le_of_ble_eq_true rfl, Nat.le_of_ble_eq_true rfl⟩ (fun z20383 F9 H locs hT hz20383 => ?_)
        obtain ⟨fz20383, hz20383⟩ := hz20383
        rw [fz20383] at hT
        refine lv_iadd hx hb dX6_isFit_94 ?_
        refine lv_topi (fun z20384 ez20384 => ?_)
        have rz20384 := rg_all z20384
        refine lv_istore (lv' := [(8, .int z20384), (7, .int z20382), (0, .ref p0), (1, .ref p1), (2, .int p2), (3, .int z20373), (4, .int z20374), (5, .int z20375), (6, .int z20376)]) hx hb dX6_isFit_95 hl (by decide) rfl (fun ls hl => ?_)
        refine lv_aload_n hx hb dX6_isFit_97 rfl (lv_at hl 2 rfl) ?_
        refine lv_iload hx hb dX6_isFit_98 (lv_at hl 1 rfl) ?_
        refine lv_iload hx hb dX6_isFit_100 (lv_at hl 0 rfl) ?_
        refine t_cVi (n := 2) (C := RX1) (T := TX1) (N := 20) (As := [.int z20382, .int z20384]) (rest := []) X hT (kt40_X1_isWet l G tag L F hT.2.2.2 p0 z20382 z20384 m0 g0) m0 g0 rfl rfl qw_388 qw_345 qw_346 qw_17 qw_347 ⟨rfl, by decide +kernel, by decide +kernel, by decide +kernel⟩ ⟨Nat.le_of_ble_eq_true rfl, Nat.le_of_ble_eq_true rfl⟩ hl rfl rfl (Nat.le_of_ble_eq_true rfl) dX6_isFit_102 ⟨Nat.le_of_ble_eq_true rfl, Nat.le_of_ble_eq_true rfl⟩ (fun z20385 F9 H locs hT hz20385 => ?_)
        obtain ⟨fz20385, hz20385⟩ := hz20385
        rw [fz20385] at hT
        refine lv_if_ne (tgt := 121) hx hb dX6_isFit_105 (by decide) (fun c20386 => ?_) (fun c20386 => ?_)
        · have w20387 := cv_ne (rfl : z20385.toInt = z20385.toInt) (by decide : (0 : Int32).toInt = 0) c20386
          refine lv_iconst (v := 0) hx hb dX6_isFit_121 (by decide) ?_
          exact t_zret hQ X hT (by decide) (⟨rfl, (by decide)⟩) (Nat.le_of_ble_eq_true rfl) (Nat.le_of_ble_eq_true rfl) dX6_isFit_122
        · have w20388 := cv_eq (rfl : z20385.toInt = z20385.toInt) (by decide : (0 : Int32).toInt = 0) c20386
          refine lv_aload_n hx hb dX6_isFit_108 rfl (lv_at hl 2 rfl) ?_
          refine lv_aload_n hx hb dX6_isFit_109 rfl (lv_at hl 3 rfl) ?_
          refine lv_iload_n hx hb dX6_isFit_110 rfl (lv_at hl 4 rfl) ?_
          refine lv_iload hx hb dX6_isFit_111 (lv_at hl 1 rfl) ?_
          refine lv_iload hx hb dX6_isFit_113 (lv_at hl 0 rfl) ?_
          refine t_cSi (n := 5) (As := [.ref p0, .ref p1, .int p2, .int z20382, .int z20384]) (rest := []) X hT (kt45_X6_isLeftTo l G tag L F hT.2.2.2 p0 p1 p2 z20382 z20384 m0 g0 m1 g1) qw_414 qw_415 qw_380 qw_416 ⟨by decide +kernel, by decide +kernel, by decide +kernel⟩ ⟨Nat.le_of_ble_eq_true rfl, Nat.le_of_ble_eq_true rfl⟩ hl rfl rfl (Nat.le_of_ble_eq_true rfl) dX6_isFit_115 ⟨Nat.le_of_ble_eq_true rfl, Nat.le_of_ble_eq_true rfl⟩ (fun z20389 F9 H locs hT hz20389 => ?_)
          obtain ⟨fz20389, hz20389⟩ := hz20389
          rw [fz20389] at hT
          refine lv_if_ne (tgt := 123) hx hb dX6_isFit_118 (by decide) (fun c20390 => ?_) (fun c20390 => ?_)
          · have w20391 := cv_ne (rfl : z20389.toInt = z20389.toInt) (by decide : (0 : Int32).toInt = 0) c20390
            obtain ⟨z20392, ez20392⟩ : ∃ y : Int32, y = z20376 + 1 := ⟨_, rfl⟩
            have hz20392 : z20392.toInt = z20376.toInt + 1 := ar_add ez20392 rfl (by decide : (1 : Int32).toInt = 1) (by omega) (by omega)
            refine lv_iinc (v := z20392) (lv' := [(6, .int z20392), (8, .int z20384), (7, .int z20382), (0, .ref p0), (1, .ref p1), (2, .int p2), (3, .int z20373), (4, .int z20374), (5, .int z20375)]) hx hb dX6_isFit_123 hl (k := 8) rfl (by rw [ez20392]; rfl) (by decide) rfl (fun ls hl => ?_)
            refine lv_goto (tgt := 66) hx hb dX6_isFit_126 (by decide) ?_
            exact ih66 z20373 z20374 z20375 z20392 _ _ _ (by omega) (by omega) (by omega) (by omega) (by omega) hT  (lv_sub hl [3, 4, 5, 6, 7, 8, 0] rfl)
          · have w20393 := cv_eq (rfl : z20389.toInt = z20389.toInt) (by decide : (0 : Int32).toInt = 0) c20390
            refine lv_iconst (v := 0) hx hb dX6_isFit_121 (by decide) ?_
            exact t_zret hQ X hT (by decide) (⟨rfl, (by decide)⟩) (Nat.le_of_ble_eq_true rfl) (Nat.le_of_ble_eq_true rfl) dX6_isFit_122
  refine lv_aload_n hx hb dX6_isFit_0 rfl (lv_at hl 1 rfl) ?_
  refine t_get (C := RX7) (T := TX7) (N := 7) X hT m1 g1 rfl rfl 2 (by decide) qw_383 inlX7 rfl dX6_isFit_1 (fun v20394 hv20394 ov20394 => ?_)
  obtain ⟨b20395, rfl, mb20395, gb20395⟩ := okV_r ov20394
  have gb20395 : tag b20395 = 8 := tg_of gb20395
  refine lv_iload_n hx hb dX6_isFit_4 rfl (lv_at hl 2 rfl) ?_
  refine t_ild X hT mb20395 gb20395 rfl (by omega) dX6_isFit_5 (fun z20396 vz20396 rz20396 => ?_)
  have rz20396 : 0 ≤ z20396.toInt ∧ z20396.toInt ≤ 6 := rz20396
  refine lv_iconst (v := 1) hx hb dX6_isFit_6 (by decide) ?_
  refine lv_iadd hx hb dX6_isFit_7 ?_
  refine lv_topi (fun z20397 ez20397 => ?_)
  have hz20397 : z20397.toInt = z20396.toInt + 1 := ar_add ez20397 (rfl : z20396.toInt = z20396.toInt) (by decide : (1 : Int32).toInt = 1) (by omega) (by omega)
  have rz20397 : 1 ≤ z20397.toInt ∧ z20397.toInt ≤ 7 := by omega
  refine lv_istore_n (lv' := [(3, .int z20397), (0, .ref p0), (1, .ref p1), (2, .int p2)]) hx hb dX6_isFit_8 rfl hl (by decide) rfl (fun ls hl => ?_)
  refine lv_aload_n hx hb dX6_isFit_9 rfl (lv_at hl 1 rfl) ?_
  refine t_get (C := RX1) (T := TX1) (N := 20) X hT m0 g0 rfl rfl 11 (by decide) qw_405 inlX1 rfl dX6_isFit_10 (fun v20398 hv20398 ov20398 => ?_)
  obtain ⟨b20399, rfl, mb20399, gb20399⟩ := okV_r ov20398
  have gb20399 : tag b20399 = 4 := tg_of gb20399
  refine lv_iload_n hx hb dX6_isFit_13 rfl (lv_at hl 3 rfl) ?_
  refine t_ild X hT mb20399 gb20399 rfl (by omega) dX6_isFit_14 (fun z20400 vz20400 rz20400 => ?_)
  have rz20400 : 0 ≤ z20400.toInt ∧ z20400.toInt ≤ 11 := rz20400
  refine lv_istore (lv' := [(4, .int z20400), (3, .int z20397), (0, .ref p0), (1, .ref p1), (2, .int p2)]) hx hb dX6_isFit_15 hl (by decide) rfl (fun ls hl => ?_)
  refine lv_aload_n hx hb dX6_isFit_17 rfl (lv_at hl 2 rfl) ?_
  refine t_get (C := RX1) (T := TX1) (N := 20) X hT m0 g0 rfl rfl 12 (by decide) qw_406 inlX1 rfl dX6_isFit_18 (fun v20401 hv20401 ov20401 => ?_)
  obtain ⟨b20402, rfl, mb20402, gb20402⟩ := okV_r ov20401
  have gb20402 : tag b20402 = 4 := tg_of gb20402
  refine lv_iload_n hx hb dX6_isFit_21 rfl (lv_at hl 4 rfl) ?_
  refine t_ild X hT mb20402 gb20402 rfl (by omega) dX6_isFit_22 (fun z20403 vz20403 rz20403 => ?_)
  have rz20403 : 0 ≤ z20403.toInt ∧ z20403.toInt ≤ 11 := rz20403
  refine lv_istore (lv' := [(5, .int z20403), (4, .int z20400), (3, .int z20397), (0, .ref p0), (1, .ref p1), (2, .int p2)]) hx hb dX6_isFit_23 hl (by decide) rfl (fun ls hl => ?_)
  refine lv_iload_n hx hb dX6_isFit_25 rfl (lv_at hl 2 rfl) ?_
  refine lv_bipush (v := 6) hx hb dX6_isFit_26 (by decide) ?_
  refine lv_icmp_gt (tgt := 61) hx hb dX6_isFit_28 (by decide) (fun c20404 => ?_) (fun c20404 => ?_)
  · have w20405 := cv_lt (by decide : (6 : Int32).toInt = 6) (rfl : z20397.toInt = z20397.toInt) c20404
    refine lv_iconst (v := 0) hx hb dX6_isFit_61 (by decide) ?_
    exact t_zret hQ X hT (by decide) (⟨rfl, (by decide)⟩) (Nat.le_of_ble_eq_true rfl) (Nat.le_of_ble_eq_true rfl) dX6_isFit_62
  · have w20406 := cv_nlt (by decide : (6 : Int32).toInt = 6) (rfl : z20397.toInt = z20397.toInt) c20404
    refine lv_aload_n hx hb dX6_isFit_31 rfl (lv_at hl 3 rfl) ?_
    refine lv_iload hx hb dX6_isFit_32 (lv_at hl 1 rfl) ?_
    refine lv_iload_n hx hb dX6_isFit_34 rfl (lv_at hl 2 rfl) ?_
    refine lv_isub hx hb dX6_isFit_35 ?_
    refine lv_topi (fun z20407 ez20407 => ?_)
    have hz20407 : z20407.toInt = z20400.toInt - z20397.toInt := ar_sub ez20407 (rfl : z20400.toInt = z20400.toInt) (rfl : z20397.toInt = z20397.toInt) (by omega) (by omega)
    have rz20407 : (-6) ≤ z20407.toInt ∧ z20407.toInt ≤ 10 := by omega
    refine lv_iload hx hb dX6_isFit_36 (lv_at hl 0 rfl) ?_
    refine lv_iload_n hx hb dX6_isFit_38 rfl (lv_at hl 2 rfl) ?_
    refine lv_isub hx hb dX6_isFit_39 ?_
    refine lv_topi (fun z20408 ez20408 => ?_)
    have hz20408 : z20408.toInt = z20403.toInt - z20397.toInt := ar_sub ez20408 (rfl : z20403.toInt = z20403.toInt) (rfl : z20397.toInt = z20397.toInt) (by omega) (by omega)
    have rz20408 : (-6) ≤ z20408.toInt ∧ z20408.toInt ≤ 10 := by omega
    refine t_cVi (n := 2) (C := RX1) (T := TX1) (N := 20) (As := [.int z20407, .int z20408]) (rest := []) X hT (kt39_X1_isOn l G tag L F hT.2.2.2 p0 z20407 z20408 m0 g0) m0 g0 rfl rfl qw_384 qw_385 qw_386 qw_17 qw_387 ⟨rfl, by decide +kernel, by decide +kernel, by decide +kernel⟩ ⟨Nat.le_of_ble_eq_true rfl, Nat.le_of_ble_eq_true rfl⟩ hl rfl rfl (Nat.le_of_ble_eq_true rfl) dX6_isFit_40 ⟨Nat.le_of_ble_eq_true rfl, Nat.le_of_ble_eq_true rfl⟩ (fun z20409 F9 H locs hT hz20409 => ?_)
    obtain ⟨fz20409, hz20409⟩ := hz20409
    rw [fz20409] at hT
    refine lv_if_eq (tgt := 61) hx hb dX6_isFit_43 (by decide) (fun c20410 => ?_) (fun c20410 => ?_)
    · have w20411 := cv_eq (rfl : z20409.toInt = z20409.toInt) (by decide : (0 : Int32).toInt = 0) c20410
      refine lv_iconst (v := 0) hx hb dX6_isFit_61 (by decide) ?_
      exact t_zret hQ X hT (by decide) (⟨rfl, (by decide)⟩) (Nat.le_of_ble_eq_true rfl) (Nat.le_of_ble_eq_true rfl) dX6_isFit_62
    · have w20412 := cv_ne (rfl : z20409.toInt = z20409.toInt) (by decide : (0 : Int32).toInt = 0) c20410
      refine lv_aload_n hx hb dX6_isFit_46 rfl (lv_at hl 3 rfl) ?_
      refine lv_iload hx hb dX6_isFit_47 (lv_at hl 1 rfl) ?_
      refine lv_iload_n hx hb dX6_isFit_49 rfl (lv_at hl 2 rfl) ?_
      refine lv_iadd hx hb dX6_isFit_50 ?_
      refine lv_topi (fun z20413 ez20413 => ?_)
      have hz20413 : z20413.toInt = z20400.toInt + z20397.toInt := ar_add ez20413 (rfl : z20400.toInt = z20400.toInt) (rfl : z20397.toInt = z20397.toInt) (by omega) (by omega)
      have rz20413 : 1 ≤ z20413.toInt ∧ z20413.toInt ≤ 17 := by omega
      refine lv_iload hx hb dX6_isFit_51 (lv_at hl 0 rfl) ?_
      refine lv_iload_n hx hb dX6_isFit_53 rfl (lv_at hl 2 rfl) ?_
      refine lv_iadd hx hb dX6_isFit_54 ?_
      refine lv_topi (fun z20414 ez20414 => ?_)
      have hz20414 : z20414.toInt = z20403.toInt + z20397.toInt := ar_add ez20414 (rfl : z20403.toInt = z20403.toInt) (rfl : z20397.toInt = z20397.toInt) (by omega) (by omega)
      have rz20414 : 1 ≤ z20414.toInt ∧ z20414.toInt ≤ 17 := by omega
      refine t_cVi (n := 2) (C := RX1) (T := TX1) (N := 20) (As := [.int z20413, .int z20414]) (rest := []) X hT (kt39_X1_isOn l G tag L F hT.2.2.2 p0 z20413 z20414 m0 g0) m0 g0 rfl rfl qw_384 qw_385 qw_386 qw_17 qw_387 ⟨rfl, by decide +kernel, by decide +kernel, by decide +kernel⟩ ⟨Nat.le_of_ble_eq_true rfl, Nat.le_of_ble_eq_true rfl⟩ hl rfl rfl (Nat.le_of_ble_eq_true rfl) dX6_isFit_55 ⟨Nat.le_of_ble_eq_true rfl, Nat.le_of_ble_eq_true rfl⟩ (fun z20415 F9 H locs hT hz20415 => ?_)
      obtain ⟨fz20415, hz20415⟩ := hz20415
      rw [fz20415] at hT
      refine lv_if_ne (tgt := 63) hx hb dX6_isFit_58 (by decide) (fun c20416 => ?_) (fun c20416 => ?_)
      · have w20417 := cv_ne (rfl : z20415.toInt = z20415.toInt) (by decide : (0 : Int32).toInt = 0) c20416
        refine lv_iconst (v := 0) hx hb dX6_isFit_63 (by decide) ?_
        refine lv_istore (lv' := [(6, .int 0), (5, .int z20403), (4, .int z20400), (3, .int z20397), (0, .ref p0), (1, .ref p1), (2, .int p2)]) hx hb dX6_isFit_64 hl (by decide) rfl (fun ls hl => ?_)
        have kk20418 : (0 : Int32).toInt = 0 := by decide
        exact K66 49 z20397 z20400 z20403 0 _ _ _ (by omega) (by omega) (by omega) (by omega) (by decide) hT  (lv_sub hl [4, 5, 6, 3, 2, 1, 0] rfl)
      · have w20419 := cv_eq (rfl : z20415.toInt = z20415.toInt) (by decide : (0 : Int32).toInt = 0) c20416
        refine lv_iconst (v := 0) hx hb dX6_isFit_61 (by decide) ?_
        exact t_zret hQ X hT (by decide) (⟨rfl, (by decide)⟩) (Nat.le_of_ble_eq_true rfl) (Nat.le_of_ble_eq_true rfl) dX6_isFit_62
set_option maxHeartbeats 4000000 in
set_option maxRecDepth 100000 in
theorem kt67_X6_isFree (l : Launch) (G : KG) (tag : Nat → Nat) (L : List Nat) (F : Nat → va_E) (ho : okT G ttC tag L F) (p0 : Nat) (p1 : Nat) (p2 : Int32) (p3 : Int32) (m0 : p0 ∈ L) (g0 : tag p0 = 18) (m1 : p1 ∈ L) (g1 : tag p1 = 19) : TMi l yX6_isFree cX6_isFree 5 (some .boolean) { frames := 1, cells := 0, slots := 0, locals := 25 } G ttC tag L F [.ref p0, .ref p1, .int p2, .int p3] (fun r F1 => F1 = F ∧ (0 ≤ r.toInt ∧ r.toInt ≤ 1)) := by
  refine t_bodyi (y := yX6_isFree) (cd := cX6_isFree) (mL := 5) (rt := (some .boolean)) (rm := { frames := 1, cells := 0, slots := 0, locals := 25 }) (av := [.ref p0, .ref p1, .int p2, .int p3]) (by decide) (Nat.le_of_ble_eq_true rfl) ho ?_
  intro p e s m args below meth c ls A Q hQ X hT hl
  have hx := X.1.1
  have hb := X.1.2.1
  have hl : lv_has ls 5 [(0, .ref p0), (1, .ref p1), (2, .int p2), (3, .int p3)] := hl
  have rp2 := rg_all p2
  have rp3 := rg_all p3
  have K23 : ∀ (n : Nat) (z20869 : Int32) (H : Heap) (locs : List Loc) (ls : Array Slot), (4 - z20869.toInt < (n : Int)) → (0 ≤ z20869.toInt ∧ z20869.toInt ≤ 4) → TH G ttC A s tag L F H locs → lv_has ls 5 [(0, .ref p0), (1, .ref p1), (2, .int p2), (3, .int p3), (4, .int z20869)] → W p l e { frames := 1, cells := 0, slots := 0, locals := 25 } s m args below meth c H locs 0 0 Q (F0 m 23 ls []) := by
    intro n
    induction n with
    | zero =>
      intro z20869 H locs ls hn rz20869 hT hl
      exfalso
      omega
    | succ n ih23 =>
      intro z20869 H locs ls hn rz20869 hT hl
      refine lv_iload hx hb dX6_isFree_23 (lv_at hl 4 rfl) ?_
      refine lv_aload_n hx hb dX6_isFree_25 rfl (lv_at hl 0 rfl) ?_
      refine t_get (C := RX1) (T := TX1) (N := 20) X hT m0 g0 rfl rfl 10 (by decide) qw_382 inlX1 rfl dX6_isFree_26 (fun v20870 hv20870 ov20870 => ?_)
      obtain ⟨z20871, rfl, rz20871⟩ := okV_i ov20870
      refine lv_icmp_ge (tgt := 58) hx hb dX6_isFree_29 (by decide) (fun c20872 => ?_) (fun c20872 => ?_)
      · have w20873 := cv_le (rfl : z20871.toInt = z20871.toInt) (rfl : z20869.toInt = z20869.toInt) c20872
        refine lv_iconst (v := 1) hx hb dX6_isFree_58 (by decide) ?_
        exact t_zret hQ X hT (by decide) (⟨rfl, (by decide)⟩) (Nat.le_of_ble_eq_true rfl) (Nat.le_of_ble_eq_true rfl) dX6_isFree_59
      · have w20874 := cv_nle (rfl : z20871.toInt = z20871.toInt) (rfl : z20869.toInt = z20869.toInt) c20872
        refine lv_aload_n hx hb dX6_isFree_32 rfl (lv_at hl 0 rfl) ?_
        refine lv_iload hx hb dX6_isFree_33 (lv_at hl 4 rfl) ?_
        refine lv_iload_n hx hb dX6_isFree_35 rfl (lv_at hl 2 rfl) ?_
        refine lv_iload_n hx hb dX6_isFree_36 rfl (lv_at hl 3 rfl) ?_
        refine t_cVi (n := 3) (C := RX1) (T := TX1) (N := 20) (As := [.int z20869, .int p2, .int p3]) (rest := []) X hT (kt37_X1_apart l G tag L F hT.2.2.2 p0 z20869 p2 p3 m0 g0 (by omega)) m0 g0 rfl rfl qw_389 qw_390 qw_391 qw_17 qw_392 ⟨rfl, by decide +kernel, by decide +kernel, by decide +kernel⟩ ⟨Nat.le_of_ble_eq_true rfl, Nat.le_of_ble_eq_true rfl⟩ hl rfl rfl (Nat.le_of_ble_eq_true rfl) dX6_isFree_37 ⟨Nat.le_of_ble_eq_true rfl, Nat.le_of_ble_eq_true rfl⟩ (fun z20875 F9 H locs hT hz20875 => ?_)
        obtain ⟨fz20875, hz20875⟩ := hz20875
        rw [fz20875] at hT
        refine lv_aload_n hx hb dX6_isFree_40 rfl (lv_at hl 1 rfl) ?_
        refine t_get (C := RX7) (T := TX7) (N := 7) X hT m1 g1 rfl rfl 2 (by decide) qw_383 inlX7 rfl dX6_isFree_41 (fun v20876 hv20876 ov20876 => ?_)
        obtain ⟨b20877, rfl, mb20877, gb20877⟩ := okV_r ov20876
        have gb20877 : tag b20877 = 8 := tg_of gb20877
        refine lv_iload hx hb dX6_isFree_44 (lv_at hl 4 rfl) ?_
        refine t_ild X hT mb20877 gb20877 rfl (by omega) dX6_isFree_46 (fun z20878 vz20878 rz20878 => ?_)
        have rz20878 : 0 ≤ z20878.toInt ∧ z20878.toInt ≤ 6 := rz20878
        refine lv_icmp_gt (tgt := 52) hx hb dX6_isFree_47 (by decide) (fun c20879 => ?_) (fun c20879 => ?_)
        · have w20880 := cv_lt (rfl : z20878.toInt = z20878.toInt) (rfl : z20875.toInt = z20875.toInt) c20879
          obtain ⟨z20881, ez20881⟩ : ∃ y : Int32, y = z20869 + 1 := ⟨_, rfl⟩
          have hz20881 : z20881.toInt = z20869.toInt + 1 := ar_add ez20881 rfl (by decide : (1 : Int32).toInt = 1) (by omega) (by omega)
          refine lv_iinc (v := z20881) (lv' := [(4, .int z20881), (0, .ref p0), (1, .ref p1), (2, .int p2), (3, .int p3)]) hx hb dX6_isFree_52 hl (k := 4) rfl (by rw [ez20881]; rfl) (by decide) rfl (fun ls hl => ?_)
          refine lv_goto (tgt := 23) hx hb dX6_isFree_55 (by decide) ?_
          exact ih23 z20881 _ _ _ (by omega) (by omega) hT  (lv_sub hl [1, 2, 3, 4, 0] rfl)
        · have w20882 := cv_nlt (rfl : z20878.toInt = z20878.toInt) (rfl : z20875.toInt = z20875.toInt) c20879
          refine lv_iconst (v := 0) hx hb dX6_isFree_50 (by decide) ?_
          exact t_zret hQ X hT (by decide) (⟨rfl, (by decide)⟩) (Nat.le_of_ble_eq_true rfl) (Nat.le_of_ble_eq_true rfl) dX6_isFree_51
  refine lv_aload_n hx hb dX6_isFree_0 rfl (lv_at hl 0 rfl) ?_
  refine lv_iload_n hx hb dX6_isFree_1 rfl (lv_at hl 2 rfl) ?_
  refine lv_iload_n hx hb dX6_isFree_2 rfl (lv_at hl 3 rfl) ?_
  refine t_cVi (n := 2) (C := RX1) (T := TX1) (N := 20) (As := [.int p2, .int p3]) (rest := []) X hT (kt39_X1_isOn l G tag L F hT.2.2.2 p0 p2 p3 m0 g0) m0 g0 rfl rfl qw_384 qw_385 qw_386 qw_17 qw_387 ⟨rfl, by decide +kernel, by decide +kernel, by decide +kernel⟩ ⟨Nat.le_of_ble_eq_true rfl, Nat.le_of_ble_eq_true rfl⟩ hl rfl rfl (Nat.le_of_ble_eq_true rfl) dX6_isFree_3 ⟨Nat.le_of_ble_eq_true rfl, Nat.le_of_ble_eq_true rfl⟩ (fun z20883 F9 H locs hT hz20883 => ?_)
  obtain ⟨fz20883, hz20883⟩ := hz20883
  rw [fz20883] at hT
  refine lv_if_eq (tgt := 18) hx hb dX6_isFree_6 (by decide) (fun c20884 => ?_) (fun c20884 => ?_)
  · have w20885 := cv_eq (rfl : z20883.toInt = z20883.toInt) (by decide : (0 : Int32).toInt = 0) c20884
    refine lv_iconst (v := 0) hx hb dX6_isFree_18 (by decide) ?_
    exact t_zret hQ X hT (by decide) (⟨rfl, (by decide)⟩) (Nat.le_of_ble_eq_true rfl) (Nat.le_of_ble_eq_true rfl) dX6_isFree_19
  · have w20886 := cv_ne (rfl : z20883.toInt = z20883.toInt) (by decide : (0 : Int32).toInt = 0) c20884
    refine lv_aload_n hx hb dX6_isFree_9 rfl (lv_at hl 0 rfl) ?_
    refine lv_iload_n hx hb dX6_isFree_10 rfl (lv_at hl 2 rfl) ?_
    refine lv_iload_n hx hb dX6_isFree_11 rfl (lv_at hl 3 rfl) ?_
    refine t_cVi (n := 2) (C := RX1) (T := TX1) (N := 20) (As := [.int p2, .int p3]) (rest := []) X hT (kt40_X1_isWet l G tag L F hT.2.2.2 p0 p2 p3 m0 g0) m0 g0 rfl rfl qw_388 qw_345 qw_346 qw_17 qw_347 ⟨rfl, by decide +kernel, by decide +kernel, by decide +kernel⟩ ⟨Nat.le_of_ble_eq_true rfl, Nat.le_of_ble_eq_true rfl⟩ hl rfl rfl (Nat.le_of_ble_eq_true rfl) dX6_isFree_12 ⟨Nat.le_of_ble_eq_true rfl, Nat.le_of_ble_eq_true rfl⟩ (fun z20887 F9 H locs hT hz20887 => ?_)
    obtain ⟨fz20887, hz20887⟩ := hz20887
    rw [fz20887] at hT
    refine lv_if_eq (tgt := 20) hx hb dX6_isFree_15 (by decide) (fun c20888 => ?_) (fun c20888 => ?_)
    · have w20889 := cv_eq (rfl : z20887.toInt = z20887.toInt) (by decide : (0 : Int32).toInt = 0) c20888
      refine lv_iconst (v := 0) hx hb dX6_isFree_20 (by decide) ?_
      refine lv_istore (lv' := [(4, .int 0), (0, .ref p0), (1, .ref p1), (2, .int p2), (3, .int p3)]) hx hb dX6_isFree_21 hl (by decide) rfl (fun ls hl => ?_)
      have kk20890 : (0 : Int32).toInt = 0 := by decide
      exact K23 5 0 _ _ _ (by omega) (by decide) hT  (lv_sub hl [1, 2, 3, 4, 0] rfl)
    · have w20891 := cv_ne (rfl : z20887.toInt = z20887.toInt) (by decide : (0 : Int32).toInt = 0) c20888
      refine lv_iconst (v := 0) hx hb dX6_isFree_18 (by decide) ?_
      exact t_zret hQ X hT (by decide) (⟨rfl, (by decide)⟩) (Nat.le_of_ble_eq_true rfl) (Nat.le_of_ble_eq_true rfl) dX6_isFree_19
set_option maxHeartbeats 4000000 in
set_option maxRecDepth 100000 in
theorem kt68_X6_isFrontFree (l : Launch) (G : KG) (tag : Nat → Nat) (L : List Nat) (F : Nat → va_E) (ho : okT G ttC tag L F) (p0 : Nat) (p1 : Nat) (p2 : Int32) (p3 : Int32) (p4 : Int32) (p5 : Int32) (m0 : p0 ∈ L) (g0 : tag p0 = 18) (m1 : p1 ∈ L) (g1 : tag p1 = 19) (h2 : 0 ≤ p2.toInt ∧ p2.toInt ≤ 3) (h4 : 0 ≤ p4.toInt ∧ p4.toInt ≤ 3) : TMi l yX6_isFrontFree cX6_isFrontFree 9 (some .boolean) { frames := 2, cells := 0, slots := 0, locals := 49 } G ttC tag L F [.ref p0, .ref p1, .int p2, .int p3, .int p4, .int p5] (fun r F1 => F1 = F ∧ (0 ≤ r.toInt ∧ r.toInt ≤ 1)) := by
  refine t_bodyi (y := yX6_isFrontFree) (cd := cX6_isFrontFree) (mL := 9) (rt := (some .boolean)) (rm := { frames := 2, cells := 0, slots := 0, locals := 49 }) (av := [.ref p0, .ref p1, .int p2, .int p3, .int p4, .int p5]) (by decide) (Nat.le_of_ble_eq_true rfl) ho ?_
  intro p e s m args below meth c ls A Q hQ X hT hl
  have hx := X.1.1
  have hb := X.1.2.1
  have hl : lv_has ls 9 [(0, .ref p0), (1, .ref p1), (2, .int p2), (3, .int p3), (4, .int p4), (5, .int p5)] := hl
  have rp3 := rg_all p3
  have rp5 := rg_all p5
  refine lv_iload_n hx hb dX6_isFrontFree_0 rfl (lv_at hl 3 rfl) ?_
  refine lv_iload hx hb dX6_isFrontFree_1 (lv_at hl 4 rfl) ?_
  refine lv_iload hx hb dX6_isFrontFree_3 (lv_at hl 5 rfl) ?_
  refine t_cSi (n := 3) (As := [.int p3, .int p4, .int p5]) (rest := []) X hT (kt27_X4_doorPlace l G tag L F hT.2.2.2 p3 p4 p5 ) qw_784 qw_785 qw_409 qw_786 ⟨by decide +kernel, by decide +kernel, by decide +kernel⟩ ⟨Nat.le_of_ble_eq_true rfl, Nat.le_of_ble_eq_true rfl⟩ hl rfl rfl (Nat.le_of_ble_eq_true rfl) dX6_isFrontFree_5 ⟨Nat.le_of_ble_eq_true rfl, Nat.le_of_ble_eq_true rfl⟩ (fun z21053 F9 H locs hT hz21053 => ?_)
  obtain ⟨fz21053, hz21053⟩ := hz21053
  rw [fz21053] at hT
  refine lv_istore (lv' := [(6, .int z21053), (0, .ref p0), (1, .ref p1), (2, .int p2), (3, .int p3), (4, .int p4), (5, .int p5)]) hx hb dX6_isFrontFree_8 hl (by decide) rfl (fun ls hl => ?_)
  refine lv_aload_n hx hb dX6_isFrontFree_10 rfl (lv_at hl 1 rfl) ?_
  refine t_get (C := RX1) (T := TX1) (N := 20) X hT m0 g0 rfl rfl 11 (by decide) qw_405 inlX1 rfl dX6_isFrontFree_11 (fun v21054 hv21054 ov21054 => ?_)
  obtain ⟨b21055, rfl, mb21055, gb21055⟩ := okV_r ov21054
  have gb21055 : tag b21055 = 4 := tg_of gb21055
  refine lv_iload_n hx hb dX6_isFrontFree_14 rfl (lv_at hl 3 rfl) ?_
  refine t_ild X hT mb21055 gb21055 rfl (by omega) dX6_isFrontFree_15 (fun z21056 vz21056 rz21056 => ?_)
  have rz21056 : 0 ≤ z21056.toInt ∧ z21056.toInt ≤ 11 := rz21056
  refine lv_iload_n hx hb dX6_isFrontFree_16 rfl (lv_at hl 4 rfl) ?_
  refine lv_iload hx hb dX6_isFrontFree_17 (lv_at hl 0 rfl) ?_
  refine t_cSi (n := 2) (As := [.int p3, .int z21053]) (rest := [.int z21056]) X hT (kt43_X4_eastOf l G tag L F hT.2.2.2 p3 z21053 ) qw_407 qw_408 qw_409 qw_410 ⟨by decide +kernel, by decide +kernel, by decide +kernel⟩ ⟨Nat.le_of_ble_eq_true rfl, Nat.le_of_ble_eq_true rfl⟩ hl rfl rfl (Nat.le_of_ble_eq_true rfl) dX6_isFrontFree_19 ⟨Nat.le_of_ble_eq_true rfl, Nat.le_of_ble_eq_true rfl⟩ (fun z21057 F9 H locs hT hz21057 => ?_)
  obtain ⟨fz21057, hz21057⟩ := hz21057
  rw [fz21057] at hT
  refine lv_iadd hx hb dX6_isFrontFree_22 ?_
  refine lv_topi (fun z21058 ez21058 => ?_)
  have rz21058 := rg_all z21058
  refine t_getsN X hT X.2.2.2.1.2.1 (List.mem_of_getElem? (i := 0) rfl) dX6_isFrontFree_23 ?_
  refine lv_iload hx hb dX6_isFrontFree_26 (lv_at hl 5 rfl) ?_
  refine t_tild X hT X.2.2.2.1.2.1 (by omega) dX6_isFrontFree_28 (fun z21059 ez21059 => ?_)
  have rz21059 : (-1) ≤ z21059.toInt ∧ z21059.toInt ≤ 1 := by rw [ez21059]; exact gEast_r _
  refine lv_iadd hx hb dX6_isFrontFree_29 ?_
  refine lv_topi (fun z21060 ez21060 => ?_)
  have rz21060 := rg_all z21060
  refine lv_istore (lv' := [(7, .int z21060), (6, .int z21053), (0, .ref p0), (1, .ref p1), (2, .int p2), (3, .int p3), (4, .int p4), (5, .int p5)]) hx hb dX6_isFrontFree_30 hl (by decide) rfl (fun ls hl => ?_)
  refine lv_aload_n hx hb dX6_isFrontFree_32 rfl (lv_at hl 2 rfl) ?_
  refine t_get (C := RX1) (T := TX1) (N := 20) X hT m0 g0 rfl rfl 12 (by decide) qw_406 inlX1 rfl dX6_isFrontFree_33 (fun v21061 hv21061 ov21061 => ?_)
  obtain ⟨b21062, rfl, mb21062, gb21062⟩ := okV_r ov21061
  have gb21062 : tag b21062 = 4 := tg_of gb21062
  refine lv_iload_n hx hb dX6_isFrontFree_36 rfl (lv_at hl 4 rfl) ?_
  refine t_ild X hT mb21062 gb21062 rfl (by omega) dX6_isFrontFree_37 (fun z21063 vz21063 rz21063 => ?_)
  have rz21063 : 0 ≤ z21063.toInt ∧ z21063.toInt ≤ 11 := rz21063
  refine lv_iload_n hx hb dX6_isFrontFree_38 rfl (lv_at hl 5 rfl) ?_
  refine lv_iload hx hb dX6_isFrontFree_39 (lv_at hl 1 rfl) ?_
  refine t_cSi (n := 2) (As := [.int p3, .int z21053]) (rest := [.int z21063]) X hT (kt44_X4_southOf l G tag L F hT.2.2.2 p3 z21053 ) qw_411 qw_412 qw_409 qw_413 ⟨by decide +kernel, by decide +kernel, by decide +kernel⟩ ⟨Nat.le_of_ble_eq_true rfl, Nat.le_of_ble_eq_true rfl⟩ hl rfl rfl (Nat.le_of_ble_eq_true rfl) dX6_isFrontFree_41 ⟨Nat.le_of_ble_eq_true rfl, Nat.le_of_ble_eq_true rfl⟩ (fun z21064 F9 H locs hT hz21064 => ?_)
  obtain ⟨fz21064, hz21064⟩ := hz21064
  rw [fz21064] at hT
  refine lv_iadd hx hb dX6_isFrontFree_44 ?_
  refine lv_topi (fun z21065 ez21065 => ?_)
  have rz21065 := rg_all z21065
  refine t_getsN X hT X.2.2.2.1.2.2.1 (List.mem_of_getElem? (i := 1) rfl) dX6_isFrontFree_45 ?_
  refine lv_iload hx hb dX6_isFrontFree_48 (lv_at hl 6 rfl) ?_
  refine t_tild X hT X.2.2.2.1.2.2.1 (by omega) dX6_isFrontFree_50 (fun z21066 ez21066 => ?_)
  have rz21066 : (-1) ≤ z21066.toInt ∧ z21066.toInt ≤ 1 := by rw [ez21066]; exact gSouth_r _
  refine lv_iadd hx hb dX6_isFrontFree_51 ?_
  refine lv_topi (fun z21067 ez21067 => ?_)
  have rz21067 := rg_all z21067
  refine lv_istore (lv' := [(8, .int z21067), (7, .int z21060), (6, .int z21053), (0, .ref p0), (1, .ref p1), (2, .int p2), (3, .int p3), (4, .int p4), (5, .int p5)]) hx hb dX6_isFrontFree_52 hl (by decide) rfl (fun ls hl => ?_)
  refine lv_aload_n hx hb dX6_isFrontFree_54 rfl (lv_at hl 3 rfl) ?_
  refine lv_aload_n hx hb dX6_isFrontFree_55 rfl (lv_at hl 4 rfl) ?_
  refine lv_iload hx hb dX6_isFrontFree_56 (lv_at hl 1 rfl) ?_
  refine lv_iload hx hb dX6_isFrontFree_58 (lv_at hl 0 rfl) ?_
  refine t_cSi (n := 4) (As := [.ref p0, .ref p1, .int z21060, .int z21067]) (rest := []) X hT (kt67_X6_isFree l G tag L F hT.2.2.2 p0 p1 z21060 z21067 m0 g0 m1 g1) qw_787 qw_379 qw_380 qw_381 ⟨by decide +kernel, by decide +kernel, by decide +kernel⟩ ⟨Nat.le_of_ble_eq_true rfl, Nat.le_of_ble_eq_true rfl⟩ hl rfl rfl (Nat.le_of_ble_eq_true rfl) dX6_isFrontFree_60 ⟨Nat.le_of_ble_eq_true rfl, Nat.le_of_ble_eq_true rfl⟩ (fun z21068 F9 H locs hT hz21068 => ?_)
  obtain ⟨fz21068, hz21068⟩ := hz21068
  rw [fz21068] at hT
  exact t_zret hQ X hT (nar_z (by omega)) (⟨rfl, (by omega)⟩) (Nat.le_of_ble_eq_true rfl) (Nat.le_of_ble_eq_true rfl) dX6_isFrontFree_63
