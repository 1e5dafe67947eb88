set_option maxHeartbeats 4000000 in
set_option maxRecDepth 100000 in
theorem kt397_X2_addMark (l : Launch) (G : KG) (tag : Nat → Nat) (L : List Nat) (Fo : Nat → va_E) (ho : okT G ttC tag L Fo) (p0 : Nat) (p1 : Nat) (m0 : p0 ∈ L) (g0 : tag p0 = 23) (m1 : p1 ∈ L) (g1 : tag p1 = 19) : TMi l yX2_addMark cX2_addMark 2 (some .int) { frames := 2, cells := 0, slots := 0, locals := 45 } G ttC tag L Fo [.ref p0, .ref p1] (fun r F1 => ((-1) ≤ r.toInt ∧ r.toInt ≤ 2) ∧ ((∀ b j : Nat, (tag b ≠ 19 ∨ j ≠ 0) → (tag b ≠ 19 ∨ j ≠ 1) → (tag b ≠ 23 ∨ j ≠ 4) → fld F1 b j = fld Fo b j) ∧ EF tag F1 Fo)) := by
  refine t_bodyi (y := yX2_addMark) (cd := cX2_addMark) (mL := 2) (rt := (some .int)) (rm := { frames := 2, cells := 0, slots := 0, locals := 45 }) (av := [.ref p0, .ref p1]) (by decide) (Nat.le_of_ble_eq_true rfl) ho ?_
  intro p e s m args below meth c ls A Q hQ X hT hl
  have hx := X.1.1
  have hb := X.1.2.1
  have hl : lv_has ls 2 [(0, .ref p0), (1, .ref p1)] := hl
  obtain ⟨F, hFo⟩ : ∃ F : Nat → va_E, F = Fo := ⟨_, rfl⟩
  rw [← hFo] at hT
  have hfr : (∀ b j : Nat, (tag b ≠ 19 ∨ j ≠ 0) → (tag b ≠ 19 ∨ j ≠ 1) → (tag b ≠ 23 ∨ j ≠ 4) → fld F b j = fld Fo b j) ∧ EF tag F Fo := by
    rw [hFo]
    exact ⟨by intros; rfl, fun _ _ _ => rfl⟩
  refine lv_aload_n hx hb dX2_addMark_0 rfl (lv_at hl 0 rfl) ?_
  refine t_get (C := RX2) (T := TX2) (N := 5) X hT m0 g0 rfl rfl 4 (by decide) qw_462 inlX2 rfl dX2_addMark_1 (fun v123783 hv123783 ov123783 => ?_)
  obtain ⟨z123784, rfl, rz123784⟩ := okV_i ov123783
  refine lv_iconst (v := 3) hx hb dX2_addMark_4 (by decide) ?_
  refine lv_icmp_lt (tgt := 10) hx hb dX2_addMark_5 (by decide) (fun c123785 => ?_) (fun c123785 => ?_)
  · have w123786 := cv_lt (rfl : z123784.toInt = z123784.toInt) (by decide : (3 : Int32).toInt = 3) c123785
    refine lv_aload_n hx hb dX2_addMark_10 rfl (lv_at hl 0 rfl) ?_
    refine t_get (C := RX2) (T := TX2) (N := 5) X hT m0 g0 rfl rfl 1 (by decide) qw_104 inlX2 rfl dX2_addMark_11 (fun v123787 hv123787 ov123787 => ?_)
    obtain ⟨b123788, rfl, mb123788, gb123788⟩ := okV_r ov123787
    have gb123788 : tag b123788 = 17 := tg_of gb123788
    refine lv_aload_n hx hb dX2_addMark_14 rfl (lv_at hl 0 rfl) ?_
    refine t_get (C := RX2) (T := TX2) (N := 5) X hT m0 g0 rfl rfl 4 (by decide) qw_462 inlX2 rfl dX2_addMark_15 (fun v123789 hv123789 ov123789 => ?_)
    obtain rfl : v123789 = .int z123784 := hv123789.symm.trans hv123783
    refine t_ald X hT mb123788 gb123788 rfl (by omega) dX2_addMark_18 (fun b123790 mb123790 gb123790 => ?_)
    have gb123790 : tag b123790 = 19 := tg_of gb123790
    refine lv_aload_n hx hb dX2_addMark_19 rfl (lv_at hl 1 rfl) ?_
    refine t_cVv (n := 1) (C := RX7) (T := TX7) (N := 7) (As := [.ref p1]) (rest := []) X hT (kt343_X7_copyFrom l G tag L F hT.2.2.2 b123790 p1 mb123790 gb123790 m1 g1) mb123790 gb123790 rfl rfl qw_1432 qw_450 qw_451 qw_22 qw_452 ⟨rfl, by decide +kernel, by decide +kernel, by decide +kernel⟩ ⟨Nat.le_of_ble_eq_true rfl, Nat.le_of_ble_eq_true rfl⟩ hl rfl rfl (Nat.le_of_ble_eq_true rfl) dX2_addMark_20 ⟨Nat.le_of_ble_eq_true rfl, Nat.le_of_ble_eq_true rfl⟩ (fun F H locs hT hz123791 => ?_)
    have yz123791 := hz123791
    have hv123783 := (yz123791.1 _ 4 (Or.inr (by decide)) (Or.inr (by decide))).trans hv123783
    have hv123787 := (yz123791.1 _ 1 (Or.inr (by decide)) (Or.inl (by rw [g0]; decide))).trans hv123787
    have hfr : (∀ b j : Nat, (tag b ≠ 19 ∨ j ≠ 0) → (tag b ≠ 19 ∨ j ≠ 1) → (tag b ≠ 23 ∨ j ≠ 4) → fld F b j = fld Fo b j) ∧ EF tag F Fo := ⟨fun b j n19_0 n19_1 n23_4 => (yz123791.1 b j n19_0 n19_1).trans (hfr.1 b j n19_0 n19_1 n23_4), fun b j hb => (yz123791.2 b j hb).trans (hfr.2 b j hb)⟩
    refine lv_aload_n hx hb dX2_addMark_23 rfl (lv_at hl 0 rfl) ?_
    refine lv_dup hx hb dX2_addMark_24 rfl ?_
    refine t_get (C := RX2) (T := TX2) (N := 5) X hT m0 g0 rfl rfl 4 (by decide) qw_462 inlX2 rfl dX2_addMark_25 (fun v123792 hv123792 ov123792 => ?_)
    obtain rfl : v123792 = .int z123784 := hv123792.symm.trans hv123783
    refine lv_iconst (v := 1) hx hb dX2_addMark_28 (by decide) ?_
    refine lv_iadd hx hb dX2_addMark_29 ?_
    refine lv_topi (fun z123793 ez123793 => ?_)
    have hz123793 : z123793.toInt = z123784.toInt + 1 := ar_add ez123793 (rfl : z123784.toInt = z123784.toInt) (by decide : (1 : Int32).toInt = 1) (by omega) (by omega)
    have rz123793 : 1 ≤ z123793.toInt ∧ z123793.toInt ≤ 3 := by omega
    refine t_put (C := RX2) (T := TX2) (N := 5) (v := .int z123793) X hT m0 g0 rfl tyX2 tyX2_ok nmX2 rfl 4 (by decide) qw_462 inlX2 rfl (by first | rfl | decide) (by first | rfl | decide) rfl (⟨_, rfl, (show 0 ≤ (z123793 : Int32).toInt from (by omega)), (show (z123793 : Int32).toInt ≤ 3 from (by omega))⟩) dX2_addMark_30 (fun F H locs hT v123794 h1v123794 h2v123794 => ?_)
    have hv123787 := (h1v123794 _ _ (Or.inr (by decide))).trans hv123787
    have hfr : (∀ b j : Nat, (tag b ≠ 19 ∨ j ≠ 0) → (tag b ≠ 19 ∨ j ≠ 1) → (tag b ≠ 23 ∨ j ≠ 4) → fld F b j = fld Fo b j) ∧ EF tag F Fo := ⟨fun b j n19_0 n19_1 n23_4 => (h1v123794 b j (fr_ne g0 n23_4)).trans (hfr.1 b j n19_0 n19_1 n23_4), fun b j hb => (h2v123794 b j).trans (hfr.2 b j hb)⟩
    refine lv_aload_n hx hb dX2_addMark_33 rfl (lv_at hl 0 rfl) ?_
    refine t_get (C := RX2) (T := TX2) (N := 5) X hT m0 g0 rfl rfl 4 (by decide) qw_462 inlX2 rfl dX2_addMark_34 (fun v123795 hv123795 ov123795 => ?_)
    obtain rfl : v123795 = .int z123793 := hv123795.symm.trans v123794
    refine lv_iconst (v := 1) hx hb dX2_addMark_37 (by decide) ?_
    refine lv_isub hx hb dX2_addMark_38 ?_
    refine lv_topi (fun z123796 ez123796 => ?_)
    have hz123796 : z123796.toInt = z123793.toInt - 1 := ar_sub ez123796 (rfl : z123793.toInt = z123793.toInt) (by decide : (1 : Int32).toInt = 1) (by omega) (by omega)
    have rz123796 : 0 ≤ z123796.toInt ∧ z123796.toInt ≤ 2 := by omega
    exact t_iret hQ X hT (⟨(by omega), hfr⟩) (Nat.le_of_ble_eq_true rfl) (Nat.le_of_ble_eq_true rfl) dX2_addMark_39
  · have w123797 := cv_nlt (rfl : z123784.toInt = z123784.toInt) (by decide : (3 : Int32).toInt = 3) c123785
    refine lv_iconst (v := (-1)) hx hb dX2_addMark_8 (by decide) ?_
    exact t_iret hQ X hT (⟨(by decide), hfr⟩) (Nat.le_of_ble_eq_true rfl) (Nat.le_of_ble_eq_true rfl) dX2_addMark_9
set_option maxHeartbeats 4000000 in
set_option maxRecDepth 100000 in
theorem kt398_X11_mark (l : Launch) (G : KG) (tag : Nat → Nat) (L : List Nat) (Fo : Nat → va_E) (ho : okT G ttC tag L Fo) (p0 : Nat) (m0 : p0 ∈ L) (g0 : tag p0 = 26) : TMi l yX11_mark cX11_mark 2 (some .int) { frames := 3, cells := 0, slots := 0, locals := 66 } G ttC tag L Fo [.ref p0] (fun r F1 => ((-2147483648) ≤ r.toInt ∧ r.toInt ≤ 2147483647) ∧ ((∀ b j : Nat, (tag b ≠ 19 ∨ j ≠ 0) → (tag b ≠ 19 ∨ j ≠ 1) → (tag b ≠ 23 ∨ j ≠ 4) → (tag b ≠ 26 ∨ j ≠ 13) → fld F1 b j = fld Fo b j) ∧ EF tag F1 Fo)) := by
  refine t_bodyi (y := yX11_mark) (cd := cX11_mark) (mL := 2) (rt := (some .int)) (rm := { frames := 3, cells := 0, slots := 0, locals := 66 }) (av := [.ref p0]) (by decide) (Nat.le_of_ble_eq_true rfl) ho ?_
  intro p e s m args below meth c ls A Q hQ X hT hl
  have hx := X.1.1
  have hb := X.1.2.1
  have hl : lv_has ls 2 [(0, .ref p0)] := hl
  obtain ⟨F, hFo⟩ : ∃ F : Nat → va_E, F = Fo := ⟨_, rfl⟩
  rw [← hFo] at hT
  have hfr : (∀ b j : Nat, (tag b ≠ 19 ∨ j ≠ 0) → (tag b ≠ 19 ∨ j ≠ 1) → (tag b ≠ 23 ∨ j ≠ 4) → (tag b ≠ 26 ∨ j ≠ 13) → fld F b j = fld Fo b j) ∧ EF tag F Fo := by
    rw [hFo]
    exact ⟨by intros; rfl, fun _ _ _ => rfl⟩
  refine lv_aload_n hx hb dX11_mark_0 rfl (lv_at hl 0 rfl) ?_
  refine t_get (C := RX11) (T := TX11) (N := 16) X hT m0 g0 rfl rfl 2 (by decide) qw_150 inlX11 rfl dX11_mark_1 (fun v123966 hv123966 ov123966 => ?_)
  obtain ⟨z123967, rfl, rz123967⟩ := okV_i ov123966
  refine lv_if_ne (tgt := 13) hx hb dX11_mark_4 (by decide) (fun c123968 => ?_) (fun c123968 => ?_)
  · have w123969 := cv_ne (rfl : z123967.toInt = z123967.toInt) (by decide : (0 : Int32).toInt = 0) c123968
    refine lv_aload_n hx hb dX11_mark_13 rfl (lv_at hl 0 rfl) ?_
    refine t_get (C := RX11) (T := TX11) (N := 16) X hT m0 g0 rfl rfl 12 (by decide) qw_45 inlX11 rfl dX11_mark_14 (fun v123970 hv123970 ov123970 => ?_)
    obtain ⟨b123971, rfl, mb123971, gb123971⟩ := okV_r ov123970
    have gb123971 : tag b123971 = 23 := tg_of gb123971
    refine lv_aload_n hx hb dX11_mark_17 rfl (lv_at hl 0 rfl) ?_
    refine t_get (C := RX11) (T := TX11) (N := 16) X hT m0 g0 rfl rfl 5 (by decide) qw_23 inlX11 rfl dX11_mark_18 (fun v123972 hv123972 ov123972 => ?_)
    obtain ⟨b123973, rfl, mb123973, gb123973⟩ := okV_r ov123972
    have gb123973 : tag b123973 = 19 := tg_of gb123973
    refine t_cVi (n := 1) (C := RX2) (T := TX2) (N := 5) (As := [.ref b123973]) (rest := []) X hT (kt397_X2_addMark l G tag L F hT.2.2.2 b123971 b123973 mb123971 gb123971 mb123973 gb123973) mb123971 gb123971 rfl rfl qw_1533 qw_1534 qw_1535 qw_44 qw_1536 ⟨rfl, by decide +kernel, by decide +kernel, by decide +kernel⟩ ⟨Nat.le_of_ble_eq_true rfl, Nat.le_of_ble_eq_true rfl⟩ hl rfl rfl (Nat.le_of_ble_eq_true rfl) dX11_mark_21 ⟨Nat.le_of_ble_eq_true rfl, Nat.le_of_ble_eq_true rfl⟩ (fun z123974 F H locs hT hz123974 => ?_)
    obtain ⟨hz123974, yz123974⟩ := hz123974
    have hv123966 := (yz123974.1 _ 2 (Or.inr (by decide)) (Or.inr (by decide)) (Or.inr (by decide))).trans hv123966
    have hv123970 := (yz123974.1 _ 12 (Or.inr (by decide)) (Or.inr (by decide)) (Or.inr (by decide))).trans hv123970
    have hv123972 := (yz123974.1 _ 5 (Or.inr (by decide)) (Or.inr (by decide)) (Or.inr (by decide))).trans hv123972
    have hfr : (∀ b j : Nat, (tag b ≠ 19 ∨ j ≠ 0) → (tag b ≠ 19 ∨ j ≠ 1) → (tag b ≠ 23 ∨ j ≠ 4) → (tag b ≠ 26 ∨ j ≠ 13) → fld F b j = fld Fo b j) ∧ EF tag F Fo := ⟨fun b j n19_0 n19_1 n23_4 n26_13 => (yz123974.1 b j n19_0 n19_1 n23_4).trans (hfr.1 b j n19_0 n19_1 n23_4 n26_13), fun b j hb => (yz123974.2 b j hb).trans (hfr.2 b j hb)⟩
    refine lv_istore_n (lv' := [(1, .int z123974), (0, .ref p0)]) hx hb dX11_mark_24 rfl hl (by decide) rfl (fun ls hl => ?_)
    refine lv_iload_n hx hb dX11_mark_25 rfl (lv_at hl 0 rfl) ?_
    refine lv_iconst (v := (-1)) hx hb dX11_mark_26 (by decide) ?_
    refine lv_icmp_ne (tgt := 38) hx hb dX11_mark_27 (by decide) (fun c123975 => ?_) (fun c123975 => ?_)
    · have w123976 := cv_ne (rfl : z123974.toInt = z123974.toInt) (by decide : ((-1) : Int32).toInt = (-1)) c123975
      refine lv_aload_n hx hb dX11_mark_38 rfl (lv_at hl 1 rfl) ?_
      refine lv_iload_n hx hb dX11_mark_39 rfl (lv_at hl 0 rfl) ?_
      refine t_cVi (n := 1) (C := RX11) (T := TX11) (N := 16) (As := [.int z123974]) (rest := []) X hT (kt350_X11_answer l G tag L F hT.2.2.2 p0 z123974 m0 g0) m0 g0 rfl rfl qw_463 qw_464 qw_465 qw_2 qw_466 ⟨rfl, by decide +kernel, by decide +kernel, by decide +kernel⟩ ⟨Nat.le_of_ble_eq_true rfl, Nat.le_of_ble_eq_true rfl⟩ hl rfl rfl (Nat.le_of_ble_eq_true rfl) dX11_mark_40 ⟨Nat.le_of_ble_eq_true rfl, Nat.le_of_ble_eq_true rfl⟩ (fun z123977 F H locs hT hz123977 => ?_)
      obtain ⟨hz123977, yz123977⟩ := hz123977
      have hv123966 := (yz123977.1 _ 2 (Or.inr (by decide))).trans hv123966
      have hv123970 := (yz123977.1 _ 12 (Or.inr (by decide))).trans hv123970
      have hv123972 := (yz123977.1 _ 5 (Or.inr (by decide))).trans hv123972
      have hfr : (∀ b j : Nat, (tag b ≠ 19 ∨ j ≠ 0) → (tag b ≠ 19 ∨ j ≠ 1) → (tag b ≠ 23 ∨ j ≠ 4) → (tag b ≠ 26 ∨ j ≠ 13) → fld F b j = fld Fo b j) ∧ EF tag F Fo := ⟨fun b j n19_0 n19_1 n23_4 n26_13 => (yz123977.1 b j n26_13).trans (hfr.1 b j n19_0 n19_1 n23_4 n26_13), fun b j hb => (yz123977.2 b j hb).trans (hfr.2 b j hb)⟩
      exact t_iret hQ X hT (⟨rg_all _, hfr⟩) (Nat.le_of_ble_eq_true rfl) (Nat.le_of_ble_eq_true rfl) dX11_mark_43
    · have w123978 := cv_eq (rfl : z123974.toInt = z123974.toInt) (by decide : ((-1) : Int32).toInt = (-1)) c123975
      refine lv_aload_n hx hb dX11_mark_30 rfl (lv_at hl 1 rfl) ?_
      refine lv_iconst (v := 3) hx hb dX11_mark_31 (by decide) ?_
      refine t_cVi (n := 1) (C := RX11) (T := TX11) (N := 16) (As := [.int 3]) (rest := []) X hT (kt357_X11_refuse l G tag L F hT.2.2.2 p0 3 m0 g0) m0 g0 rfl rfl qw_152 qw_153 qw_154 qw_2 qw_155 ⟨rfl, by decide +kernel, by decide +kernel, by decide +kernel⟩ ⟨Nat.le_of_ble_eq_true rfl, Nat.le_of_ble_eq_true rfl⟩ hl rfl rfl (Nat.le_of_ble_eq_true rfl) dX11_mark_32 ⟨Nat.le_of_ble_eq_true rfl, Nat.le_of_ble_eq_true rfl⟩ (fun z123979 F H locs hT hz123979 => ?_)
      obtain ⟨hz123979, yz123979⟩ := hz123979
      have hv123966 := (yz123979.1 _ 2 (Or.inr (by decide))).trans hv123966
      have hv123970 := (yz123979.1 _ 12 (Or.inr (by decide))).trans hv123970
      have hv123972 := (yz123979.1 _ 5 (Or.inr (by decide))).trans hv123972
      have hfr : (∀ b j : Nat, (tag b ≠ 19 ∨ j ≠ 0) → (tag b ≠ 19 ∨ j ≠ 1) → (tag b ≠ 23 ∨ j ≠ 4) → (tag b ≠ 26 ∨ j ≠ 13) → fld F b j = fld Fo b j) ∧ EF tag F Fo := ⟨fun b j n19_0 n19_1 n23_4 n26_13 => (yz123979.1 b j n26_13).trans (hfr.1 b j n19_0 n19_1 n23_4 n26_13), fun b j hb => (yz123979.2 b j hb).trans (hfr.2 b j hb)⟩
      refine lv_goto (tgt := 43) hx hb dX11_mark_35 (by decide) ?_
      exact t_iret hQ X hT (⟨rg_all _, hfr⟩) (Nat.le_of_ble_eq_true rfl) (Nat.le_of_ble_eq_true rfl) dX11_mark_43
  · have w123980 := cv_eq (rfl : z123967.toInt = z123967.toInt) (by decide : (0 : Int32).toInt = 0) c123968
    refine lv_aload_n hx hb dX11_mark_7 rfl (lv_at hl 0 rfl) ?_
    refine lv_iconst (v := 1) hx hb dX11_mark_8 (by decide) ?_
    refine t_cVi (n := 1) (C := RX11) (T := TX11) (N := 16) (As := [.int 1]) (rest := []) X hT (kt357_X11_refuse l G tag L F hT.2.2.2 p0 1 m0 g0) m0 g0 rfl rfl qw_152 qw_153 qw_154 qw_2 qw_155 ⟨rfl, by decide +kernel, by decide +kernel, by decide +kernel⟩ ⟨Nat.le_of_ble_eq_true rfl, Nat.le_of_ble_eq_true rfl⟩ hl rfl rfl (Nat.le_of_ble_eq_true rfl) dX11_mark_9 ⟨Nat.le_of_ble_eq_true rfl, Nat.le_of_ble_eq_true rfl⟩ (fun z123981 F H locs hT hz123981 => ?_)
    obtain ⟨hz123981, yz123981⟩ := hz123981
    have hv123966 := (yz123981.1 _ 2 (Or.inr (by decide))).trans hv123966
    have hfr : (∀ b j : Nat, (tag b ≠ 19 ∨ j ≠ 0) → (tag b ≠ 19 ∨ j ≠ 1) → (tag b ≠ 23 ∨ j ≠ 4) → (tag b ≠ 26 ∨ j ≠ 13) → fld F b j = fld Fo b j) ∧ EF tag F Fo := ⟨fun b j n19_0 n19_1 n23_4 n26_13 => (yz123981.1 b j n26_13).trans (hfr.1 b j n19_0 n19_1 n23_4 n26_13), fun b j hb => (yz123981.2 b j hb).trans (hfr.2 b j hb)⟩
    exact t_iret hQ X hT (⟨rg_all _, hfr⟩) (Nat.le_of_ble_eq_true rfl) (Nat.le_of_ble_eq_true rfl) dX11_mark_12
set_option maxHeartbeats 4000000 in
set_option maxRecDepth 100000 in
theorem kt399_X11_meet (l : Launch) (G : KG) (tag : Nat → Nat) (L : List Nat) (Fo : Nat → va_E) (ho : okT G ttC tag L Fo) (p0 : Nat) (p1 : Int32) (p2 : Int32) (p3 : Int32) (m0 : p0 ∈ L) (g0 : tag p0 = 26) : TMi l yX11_meet cX11_meet 5 (some .int) { frames := 6, cells := 0, slots := 0, locals := 157 } G ttC tag L Fo [.ref p0, .int p1, .int p2, .int p3] (fun r F1 => ((-2147483648) ≤ r.toInt ∧ r.toInt ≤ 2147483647) ∧ ((∀ b j : Nat, (tag b ≠ 19 ∨ j ≠ 0) → (tag b ≠ 19 ∨ j ≠ 1) → (tag b ≠ 26 ∨ j ≠ 13) → fld F1 b j = fld Fo b j) ∧ EF tag F1 Fo)) := by
  refine t_bodyi (y := yX11_meet) (cd := cX11_meet) (mL := 5) (rt := (some .int)) (rm := { frames := 6, cells := 0, slots := 0, locals := 157 }) (av := [.ref p0, .int p1, .int p2, .int p3]) (by decide) (Nat.le_of_ble_eq_true rfl) ho ?_
  intro p e s m args below meth c ls A Q hQ X hT hl
  have hx := X.1.1
  have hb := X.1.2.1
  have hl : lv_has ls 5 [(0, .ref p0), (1, .int p1), (2, .int p2), (3, .int p3)] := hl
  have rp1 := rg_all p1
  have rp2 := rg_all p2
  have rp3 := rg_all p3
  obtain ⟨F, hFo⟩ : ∃ F : Nat → va_E, F = Fo := ⟨_, rfl⟩
  rw [← hFo] at hT
  have hfr : (∀ b j : Nat, (tag b ≠ 19 ∨ j ≠ 0) → (tag b ≠ 19 ∨ j ≠ 1) → (tag b ≠ 26 ∨ j ≠ 13) → fld F b j = fld Fo b j) ∧ EF tag F Fo := by
    rw [hFo]
    exact ⟨by intros; rfl, fun _ _ _ => rfl⟩
  have K21 : ∀  (F : Nat → va_E) (H : Heap) (locs : List Loc) (ls : Array Slot), TH G ttC A s tag L F H locs → ((∀ b j : Nat, (tag b ≠ 19 ∨ j ≠ 0) → (tag b ≠ 19 ∨ j ≠ 1) → (tag b ≠ 26 ∨ j ≠ 13) → fld F b j = fld Fo b j) ∧ EF tag F Fo) → lv_has ls 5 [(0, .ref p0), (1, .int p1), (2, .int p2), (3, .int p3)] → W p l e { frames := 6, cells := 0, slots := 0, locals := 157 } s m args below meth c H locs 0 0 Q (F0 m 21 ls []) := by
    intro F H locs ls hT hfr hl
    refine lv_aload_n hx hb dX11_meet_21 rfl (lv_at hl 0 rfl) ?_
    refine lv_iconst (v := 1) hx hb dX11_meet_22 (by decide) ?_
    refine t_cVi (n := 1) (C := RX11) (T := TX11) (N := 16) (As := [.int 1]) (rest := []) X hT (kt357_X11_refuse l G tag L F hT.2.2.2 p0 1 m0 g0) m0 g0 rfl rfl qw_152 qw_153 qw_154 qw_2 qw_155 ⟨rfl, by decide +kernel, by decide +kernel, by decide +kernel⟩ ⟨Nat.le_of_ble_eq_true rfl, Nat.le_of_ble_eq_true rfl⟩ hl rfl rfl (Nat.le_of_ble_eq_true rfl) dX11_meet_23 ⟨Nat.le_of_ble_eq_true rfl, Nat.le_of_ble_eq_true rfl⟩ (fun z124817 F H locs hT hz124817 => ?_)
    obtain ⟨hz124817, yz124817⟩ := hz124817
    have hfr : (∀ b j : Nat, (tag b ≠ 19 ∨ j ≠ 0) → (tag b ≠ 19 ∨ j ≠ 1) → (tag b ≠ 26 ∨ j ≠ 13) → fld F b j = fld Fo b j) ∧ EF tag F Fo := ⟨fun b j n19_0 n19_1 n26_13 => (yz124817.1 b j n26_13).trans (hfr.1 b j n19_0 n19_1 n26_13), fun b j hb => (yz124817.2 b j hb).trans (hfr.2 b j hb)⟩
    exact t_iret hQ X hT (⟨rg_all _, hfr⟩) (Nat.le_of_ble_eq_true rfl) (Nat.le_of_ble_eq_true rfl) dX11_meet_26
  have K37 : ∀  (F : Nat → va_E) (H : Heap) (locs : List Loc) (ls : Array Slot), (0 ≤ p1.toInt ∧ p1.toInt ≤ 3) → (0 ≤ p2.toInt ∧ p2.toInt ≤ 3) → TH G ttC A s tag L F H locs → ((∀ b j : Nat, (tag b ≠ 19 ∨ j ≠ 0) → (tag b ≠ 19 ∨ j ≠ 1) → (tag b ≠ 26 ∨ j ≠ 13) → fld F b j = fld Fo b j) ∧ EF tag F Fo) → lv_has ls 5 [(0, .ref p0), (1, .int p1), (2, .int p2), (3, .int p3)] → W p l e { frames := 6, cells := 0, slots := 0, locals := 157 } s m args below meth c H locs 0 0 Q (F0 m 37 ls []) := by
    intro F H locs ls r9s124818 r9s124819 hT hfr hl
    refine lv_aload_n hx hb dX11_meet_37 rfl (lv_at hl 0 rfl) ?_
    refine lv_iconst (v := 2) hx hb dX11_meet_38 (by decide) ?_
    refine t_cVi (n := 1) (C := RX11) (T := TX11) (N := 16) (As := [.int 2]) (rest := []) X hT (kt357_X11_refuse l G tag L F hT.2.2.2 p0 2 m0 g0) m0 g0 rfl rfl qw_152 qw_153 qw_154 qw_2 qw_155 ⟨rfl, by decide +kernel, by decide +kernel, by decide +kernel⟩ ⟨Nat.le_of_ble_eq_true rfl, Nat.le_of_ble_eq_true rfl⟩ hl rfl rfl (Nat.le_of_ble_eq_true rfl) dX11_meet_39 ⟨Nat.le_of_ble_eq_true rfl, Nat.le_of_ble_eq_true rfl⟩ (fun z124820 F H locs hT hz124820 => ?_)
    obtain ⟨hz124820, yz124820⟩ := hz124820
    have hfr : (∀ b j : Nat, (tag b ≠ 19 ∨ j ≠ 0) → (tag b ≠ 19 ∨ j ≠ 1) → (tag b ≠ 26 ∨ j ≠ 13) → fld F b j = fld Fo b j) ∧ EF tag F Fo := ⟨fun b j n19_0 n19_1 n26_13 => (yz124820.1 b j n26_13).trans (hfr.1 b j n19_0 n19_1 n26_13), fun b j hb => (yz124820.2 b j hb).trans (hfr.2 b j hb)⟩
    exact t_iret hQ X hT (⟨rg_all _, hfr⟩) (Nat.le_of_ble_eq_true rfl) (Nat.le_of_ble_eq_true rfl) dX11_meet_42
  have K57 : ∀ (n : Nat) (z124824 : Int32) (F : Nat → va_E) (H : Heap) (locs : List Loc) (ls : Array Slot), (61 - z124824.toInt < (n : Int)) → (0 ≤ z124824.toInt ∧ z124824.toInt ≤ 61) → (0 ≤ p1.toInt ∧ p1.toInt ≤ 3) → (0 ≤ p2.toInt ∧ p2.toInt ≤ 3) → (0 ≤ p3.toInt ∧ p3.toInt ≤ 60) → TH G ttC A s tag L F H locs → ((∀ b j : Nat, (tag b ≠ 19 ∨ j ≠ 0) → (tag b ≠ 19 ∨ j ≠ 1) → (tag b ≠ 26 ∨ j ≠ 13) → fld F b j = fld Fo b j) ∧ EF tag F Fo) → lv_has ls 5 [(0, .ref p0), (1, .int p1), (2, .int p2), (3, .int p3), (4, .int z124824)] → W p l e { frames := 6, cells := 0, slots := 0, locals := 157 } s m args below meth c H locs 0 0 Q (F0 m 57 ls []) := by
    intro n
    induction n with
    | zero =>
      intro z124824 F H locs ls hn rz124824 r9s124821 r9s124822 r9s124823 hT hfr hl
      exfalso
      omega
    | succ n ih57 =>
      intro z124824 F H locs ls hn rz124824 r9s124821 r9s124822 r9s124823 hT hfr hl
      refine lv_iload hx hb dX11_meet_57 (lv_at hl 4 rfl) ?_
      refine lv_iload_n hx hb dX11_meet_59 rfl (lv_at hl 3 rfl) ?_
      refine lv_icmp_gt (tgt := 106) hx hb dX11_meet_60 (by decide) (fun c124825 => ?_) (fun c124825 => ?_)
      · have w124826 := cv_lt (rfl : p3.toInt = p3.toInt) (rfl : z124824.toInt = z124824.toInt) c124825
        refine lv_aload_n hx hb dX11_meet_106 rfl (lv_at hl 0 rfl) ?_
        refine lv_bipush (v := (-2)) hx hb dX11_meet_107 (by decide) ?_
        refine t_cVi (n := 1) (C := RX11) (T := TX11) (N := 16) (As := [.int (-2)]) (rest := []) X hT (kt350_X11_answer l G tag L F hT.2.2.2 p0 (-2) m0 g0) m0 g0 rfl rfl qw_463 qw_464 qw_465 qw_2 qw_466 ⟨rfl, by decide +kernel, by decide +kernel, by decide +kernel⟩ ⟨Nat.le_of_ble_eq_true rfl, Nat.le_of_ble_eq_true rfl⟩ hl rfl rfl (Nat.le_of_ble_eq_true rfl) dX11_meet_109 ⟨Nat.le_of_ble_eq_true rfl, Nat.le_of_ble_eq_true rfl⟩ (fun z124827 F H locs hT hz124827 => ?_)
        obtain ⟨hz124827, yz124827⟩ := hz124827
        have hfr : (∀ b j : Nat, (tag b ≠ 19 ∨ j ≠ 0) → (tag b ≠ 19 ∨ j ≠ 1) → (tag b ≠ 26 ∨ j ≠ 13) → fld F b j = fld Fo b j) ∧ EF tag F Fo := ⟨fun b j n19_0 n19_1 n26_13 => (yz124827.1 b j n26_13).trans (hfr.1 b j n19_0 n19_1 n26_13), fun b j hb => (yz124827.2 b j hb).trans (hfr.2 b j hb)⟩
        exact t_iret hQ X hT (⟨rg_all _, hfr⟩) (Nat.le_of_ble_eq_true rfl) (Nat.le_of_ble_eq_true rfl) dX11_meet_112
      · have w124828 := cv_nlt (rfl : p3.toInt = p3.toInt) (rfl : z124824.toInt = z124824.toInt) c124825
        refine lv_aload_n hx hb dX11_meet_63 rfl (lv_at hl 0 rfl) ?_
        refine t_get (C := RX11) (T := TX11) (N := 16) X hT m0 g0 rfl rfl 3 (by decide) qw_18 inlX11 rfl dX11_meet_64 (fun v124829 hv124829 ov124829 => ?_)
        obtain ⟨b124830, rfl, mb124830, gb124830⟩ := okV_r ov124829
        have gb124830 : tag b124830 = 18 := tg_of gb124830
        refine lv_aload_n hx hb dX11_meet_67 rfl (lv_at hl 0 rfl) ?_
        refine t_get (C := RX11) (T := TX11) (N := 16) X hT m0 g0 rfl rfl 7 (by decide) qw_25 inlX11 rfl dX11_meet_68 (fun v124831 hv124831 ov124831 => ?_)
        obtain ⟨b124832, rfl, mb124832, gb124832⟩ := okV_r ov124831
        have gb124832 : tag b124832 = 19 := tg_of gb124832
        refine lv_iload_n hx hb dX11_meet_71 rfl (lv_at hl 1 rfl) ?_
        refine lv_iload_n hx hb dX11_meet_72 rfl (lv_at hl 2 rfl) ?_
        refine t_cSi (n := 4) (As := [.ref b124830, .ref b124832, .int p1, .int p2]) (rest := []) X hT (kt326_X6_isMet l G tag L F hT.2.2.2 b124830 b124832 p1 p2 mb124830 gb124830 mb124832 gb124832 (by omega) (by omega)) qw_1197 qw_1198 qw_380 qw_1199 ⟨by decide +kernel, by decide +kernel, by decide +kernel⟩ ⟨Nat.le_of_ble_eq_true rfl, Nat.le_of_ble_eq_true rfl⟩ hl rfl rfl (Nat.le_of_ble_eq_true rfl) dX11_meet_73 ⟨Nat.le_of_ble_eq_true rfl, Nat.le_of_ble_eq_true rfl⟩ (fun z124833 F9 H locs hT hz124833 => ?_)
        obtain ⟨fz124833, hz124833⟩ := hz124833
        rw [fz124833] at hT
        refine lv_if_eq (tgt := 86) hx hb dX11_meet_76 (by decide) (fun c124834 => ?_) (fun c124834 => ?_)
        · have w124835 := cv_eq (rfl : z124833.toInt = z124833.toInt) (by decide : (0 : Int32).toInt = 0) c124834
          refine lv_aload_n hx hb dX11_meet_86 rfl (lv_at hl 0 rfl) ?_
          refine t_get (C := RX11) (T := TX11) (N := 16) X hT m0 g0 rfl rfl 3 (by decide) qw_18 inlX11 rfl dX11_meet_87 (fun v124836 hv124836 ov124836 => ?_)
          obtain rfl : v124836 = .ref b124830 := hv124836.symm.trans hv124829
          refine lv_aload_n hx hb dX11_meet_90 rfl (lv_at hl 0 rfl) ?_
          refine t_get (C := RX11) (T := TX11) (N := 16) X hT m0 g0 rfl rfl 7 (by decide) qw_25 inlX11 rfl dX11_meet_91 (fun v124837 hv124837 ov124837 => ?_)
          obtain rfl : v124837 = .ref b124832 := hv124837.symm.trans hv124831
          refine t_gets X hT X.2.2.2.1.2.1.2.2.2 qw_1096 dX11_meet_94 ?_
          refine t_cSv (n := 3) (As := [.ref b124830, .ref b124832, .ref (G.2 13)]) (rest := []) X hT (kt365_X10_pass l G tag L F hT.2.2.2 b124830 b124832 mb124830 gb124830 mb124832 gb124832) qw_1097 qw_1098 qw_32 qw_1099 ⟨by decide +kernel, by decide +kernel, by decide +kernel⟩ ⟨Nat.le_of_ble_eq_true rfl, Nat.le_of_ble_eq_true rfl⟩ hl rfl rfl (Nat.le_of_ble_eq_true rfl) dX11_meet_97 ⟨Nat.le_of_ble_eq_true rfl, Nat.le_of_ble_eq_true rfl⟩ (fun F H locs hT hz124838 => ?_)
          have yz124838 := hz124838
          have hv124829 := (yz124838.1 _ 3 (Or.inr (by decide)) (Or.inr (by decide))).trans hv124829
          have hv124831 := (yz124838.1 _ 7 (Or.inr (by decide)) (Or.inr (by decide))).trans hv124831
          have hfr : (∀ b j : Nat, (tag b ≠ 19 ∨ j ≠ 0) → (tag b ≠ 19 ∨ j ≠ 1) → (tag b ≠ 26 ∨ j ≠ 13) → fld F b j = fld Fo b j) ∧ EF tag F Fo := ⟨fun b j n19_0 n19_1 n26_13 => (yz124838.1 b j n19_0 n19_1).trans (hfr.1 b j n19_0 n19_1 n26_13), fun b j hb => (yz124838.2 b j hb).trans (hfr.2 b j hb)⟩
          obtain ⟨z124839, ez124839⟩ : ∃ y : Int32, y = z124824 + 1 := ⟨_, rfl⟩
          have hz124839 : z124839.toInt = z124824.toInt + 1 := ar_add ez124839 rfl (by decide : (1 : Int32).toInt = 1) (by omega) (by omega)
          refine lv_iinc (v := z124839) (lv' := [(4, .int z124839), (0, .ref p0), (1, .int p1), (2, .int p2), (3, .int p3)]) hx hb dX11_meet_100 hl (k := 4) rfl (by rw [ez124839]; rfl) (by decide) rfl (fun ls hl => ?_)
          refine lv_goto (tgt := 57) hx hb dX11_meet_103 (by decide) ?_
          exact ih57 z124839 _ _ _ _ (by omega) (by omega) (by omega) (by omega) (by omega) hT hfr  (lv_sub hl [1, 2, 3, 4, 0] rfl)
        · have w124840 := cv_ne (rfl : z124833.toInt = z124833.toInt) (by decide : (0 : Int32).toInt = 0) c124834
          refine lv_aload_n hx hb dX11_meet_79 rfl (lv_at hl 0 rfl) ?_
          refine lv_iload hx hb dX11_meet_80 (lv_at hl 4 rfl) ?_
          refine t_cVi (n := 1) (C := RX11) (T := TX11) (N := 16) (As := [.int z124824]) (rest := []) X hT (kt350_X11_answer l G tag L F hT.2.2.2 p0 z124824 m0 g0) m0 g0 rfl rfl qw_463 qw_464 qw_465 qw_2 qw_466 ⟨rfl, by decide +kernel, by decide +kernel, by decide +kernel⟩ ⟨Nat.le_of_ble_eq_true rfl, Nat.le_of_ble_eq_true rfl⟩ hl rfl rfl (Nat.le_of_ble_eq_true rfl) dX11_meet_82 ⟨Nat.le_of_ble_eq_true rfl, Nat.le_of_ble_eq_true rfl⟩ (fun z124841 F H locs hT hz124841 => ?_)
          obtain ⟨hz124841, yz124841⟩ := hz124841
          have hv124829 := (yz124841.1 _ 3 (Or.inr (by decide))).trans hv124829
          have hv124831 := (yz124841.1 _ 7 (Or.inr (by decide))).trans hv124831
          have hfr : (∀ b j : Nat, (tag b ≠ 19 ∨ j ≠ 0) → (tag b ≠ 19 ∨ j ≠ 1) → (tag b ≠ 26 ∨ j ≠ 13) → fld F b j = fld Fo b j) ∧ EF tag F Fo := ⟨fun b j n19_0 n19_1 n26_13 => (yz124841.1 b j n26_13).trans (hfr.1 b j n19_0 n19_1 n26_13), fun b j hb => (yz124841.2 b j hb).trans (hfr.2 b j hb)⟩
          exact t_iret hQ X hT (⟨rg_all _, hfr⟩) (Nat.le_of_ble_eq_true rfl) (Nat.le_of_ble_eq_true rfl) dX11_meet_85
  refine lv_aload_n hx hb dX11_meet_0 rfl (lv_at hl 0 rfl) ?_
  refine lv_iload_n hx hb dX11_meet_1 rfl (lv_at hl 1 rfl) ?_
  refine t_cVi (n := 1) (C := RX11) (T := TX11) (N := 16) (As := [.int p1]) (rest := []) X hT (kt355_X11_isHouse l G tag L F hT.2.2.2 p0 p1 m0 g0) m0 g0 rfl rfl qw_770 qw_771 qw_772 qw_2 qw_773 ⟨rfl, by decide +kernel, by decide +kernel, by decide +kernel⟩ ⟨Nat.le_of_ble_eq_true rfl, Nat.le_of_ble_eq_true rfl⟩ hl rfl rfl (Nat.le_of_ble_eq_true rfl) dX11_meet_2 ⟨Nat.le_of_ble_eq_true rfl, Nat.le_of_ble_eq_true rfl⟩ (fun z124842 F9 H locs hT hz124842 => ?_)
  obtain ⟨fz124842, hz124842⟩ := hz124842
  rw [fz124842] at hT
  obtain ⟨hz124842, iz124842⟩ := hz124842
  refine lv_if_eq (tgt := 21) hx hb dX11_meet_5 (by decide) (fun c124843 => ?_) (fun c124843 => ?_)
  · have w124844 := cv_eq (rfl : z124842.toInt = z124842.toInt) (by decide : (0 : Int32).toInt = 0) c124843
    exact K21  _ _ _ _  hT hfr  (lv_sub hl [0, 1, 2, 3] rfl)
  · have w124845 := cv_ne (rfl : z124842.toInt = z124842.toInt) (by decide : (0 : Int32).toInt = 0) c124843
    have w124846 := (fun h => (iz124842 h)) (by omega)
    refine lv_aload_n hx hb dX11_meet_8 rfl (lv_at hl 0 rfl) ?_
    refine lv_iload_n hx hb dX11_meet_9 rfl (lv_at hl 2 rfl) ?_
    refine t_cVi (n := 1) (C := RX11) (T := TX11) (N := 16) (As := [.int p2]) (rest := []) X hT (kt355_X11_isHouse l G tag L F hT.2.2.2 p0 p2 m0 g0) m0 g0 rfl rfl qw_770 qw_771 qw_772 qw_2 qw_773 ⟨rfl, by decide +kernel, by decide +kernel, by decide +kernel⟩ ⟨Nat.le_of_ble_eq_true rfl, Nat.le_of_ble_eq_true rfl⟩ hl rfl rfl (Nat.le_of_ble_eq_true rfl) dX11_meet_10 ⟨Nat.le_of_ble_eq_true rfl, Nat.le_of_ble_eq_true rfl⟩ (fun z124847 F9 H locs hT hz124847 => ?_)
    obtain ⟨fz124847, hz124847⟩ := hz124847
    rw [fz124847] at hT
    obtain ⟨hz124847, iz124847⟩ := hz124847
    refine lv_if_eq (tgt := 21) hx hb dX11_meet_13 (by decide) (fun c124848 => ?_) (fun c124848 => ?_)
    · have w124849 := cv_eq (rfl : z124847.toInt = z124847.toInt) (by decide : (0 : Int32).toInt = 0) c124848
      exact K21  _ _ _ _  hT hfr  (lv_sub hl [0, 1, 2, 3] rfl)
    · have w124850 := cv_ne (rfl : z124847.toInt = z124847.toInt) (by decide : (0 : Int32).toInt = 0) c124848
      have w124851 := (fun h => (iz124847 h)) (by omega)
      refine lv_iload_n hx hb dX11_meet_16 rfl (lv_at hl 1 rfl) ?_
      refine lv_iload_n hx hb dX11_meet_17 rfl (lv_at hl 2 rfl) ?_
      refine lv_icmp_ne (tgt := 27) hx hb dX11_meet_18 (by decide) (fun c124852 => ?_) (fun c124852 => ?_)
      · have w124853 := cv_ne (rfl : p1.toInt = p1.toInt) (rfl : p2.toInt = p2.toInt) c124852
        refine lv_iload_n hx hb dX11_meet_27 rfl (lv_at hl 3 rfl) ?_
        refine lv_if_lt (tgt := 37) hx hb dX11_meet_28 (by decide) (fun c124854 => ?_) (fun c124854 => ?_)
        · have w124855 := cv_lt (rfl : p3.toInt = p3.toInt) (by decide : (0 : Int32).toInt = 0) c124854
          exact K37  _ _ _ _ (by omega) (by omega) hT hfr  (lv_sub hl [0, 1, 2, 3] rfl)
        · have w124856 := cv_nlt (rfl : p3.toInt = p3.toInt) (by decide : (0 : Int32).toInt = 0) c124854
          refine lv_iload_n hx hb dX11_meet_31 rfl (lv_at hl 3 rfl) ?_
          refine lv_bipush (v := 60) hx hb dX11_meet_32 (by decide) ?_
          refine lv_icmp_le (tgt := 43) hx hb dX11_meet_34 (by decide) (fun c124857 => ?_) (fun c124857 => ?_)
          · have w124858 := cv_le (rfl : p3.toInt = p3.toInt) (by decide : (60 : Int32).toInt = 60) c124857
            refine lv_aload_n hx hb dX11_meet_43 rfl (lv_at hl 0 rfl) ?_
            refine t_get (C := RX11) (T := TX11) (N := 16) X hT m0 g0 rfl rfl 7 (by decide) qw_25 inlX11 rfl dX11_meet_44 (fun v124859 hv124859 ov124859 => ?_)
            obtain ⟨b124860, rfl, mb124860, gb124860⟩ := okV_r ov124859
            have gb124860 : tag b124860 = 19 := tg_of gb124860
            refine lv_aload_n hx hb dX11_meet_47 rfl (lv_at hl 0 rfl) ?_
            refine t_get (C := RX11) (T := TX11) (N := 16) X hT m0 g0 rfl rfl 5 (by decide) qw_23 inlX11 rfl dX11_meet_48 (fun v124861 hv124861 ov124861 => ?_)
            obtain ⟨b124862, rfl, mb124862, gb124862⟩ := okV_r ov124861
            have gb124862 : tag b124862 = 19 := tg_of gb124862
            refine t_cVv (n := 1) (C := RX7) (T := TX7) (N := 7) (As := [.ref b124862]) (rest := []) X hT (kt343_X7_copyFrom l G tag L F hT.2.2.2 b124860 b124862 mb124860 gb124860 mb124862 gb124862) mb124860 gb124860 rfl rfl qw_449 qw_450 qw_451 qw_22 qw_452 ⟨rfl, by decide +kernel, by decide +kernel, by decide +kernel⟩ ⟨Nat.le_of_ble_eq_true rfl, Nat.le_of_ble_eq_true rfl⟩ hl rfl rfl (Nat.le_of_ble_eq_true rfl) dX11_meet_51 ⟨Nat.le_of_ble_eq_true rfl, Nat.le_of_ble_eq_true rfl⟩ (fun F H locs hT hz124863 => ?_)
            have yz124863 := hz124863
            have hv124859 := (yz124863.1 _ 7 (Or.inr (by decide)) (Or.inr (by decide))).trans hv124859
            have hv124861 := (yz124863.1 _ 5 (Or.inr (by decide)) (Or.inr (by decide))).trans hv124861
            have hfr : (∀ b j : Nat, (tag b ≠ 19 ∨ j ≠ 0) → (tag b ≠ 19 ∨ j ≠ 1) → (tag b ≠ 26 ∨ j ≠ 13) → fld F b j = fld Fo b j) ∧ EF tag F Fo := ⟨fun b j n19_0 n19_1 n26_13 => (yz124863.1 b j n19_0 n19_1).trans (hfr.1 b j n19_0 n19_1 n26_13), fun b j hb => (yz124863.2 b j hb).trans (hfr.2 b j hb)⟩
            refine lv_iconst (v := 0) hx hb dX11_meet_54 (by decide) ?_
            refine lv_istore (lv' := [(4, .int 0), (0, .ref p0), (1, .int p1), (2, .int p2), (3, .int p3)]) hx hb dX11_meet_55 hl (by decide) rfl (fun ls hl => ?_)
            have kk124864 : (0 : Int32).toInt = 0 := by decide
            exact K57 62 0 _ _ _ _ (by omega) (by decide) (by omega) (by omega) (by omega) hT hfr  (lv_sub hl [1, 2, 3, 4, 0] rfl)
          · have w124865 := cv_nle (rfl : p3.toInt = p3.toInt) (by decide : (60 : Int32).toInt = 60) c124857
            exact K37  _ _ _ _ (by omega) (by omega) hT hfr  (lv_sub hl [0, 1, 2, 3] rfl)
      · have w124866 := cv_eq (rfl : p1.toInt = p1.toInt) (rfl : p2.toInt = p2.toInt) c124852
        exact K21  _ _ _ _  hT hfr  (lv_sub hl [0, 1, 2, 3] rfl)
set_option maxHeartbeats 4000000 in
set_option maxRecDepth 100000 in
theorem kt400_X11_move (l : Launch) (G : KG) (tag : Nat → Nat) (L : List Nat) (Fo : Nat → va_E) (ho : okT G ttC tag L Fo) (p0 : Nat) (p1 : Int32) (p2 : Int32) (m0 : p0 ∈ L) (g0 : tag p0 = 26) : TMi l yX11_move cX11_move 3 (some .boolean) { frames := 3, cells := 0, slots := 0, locals := 68 } G ttC tag L Fo [.ref p0, .int p1, .int p2] (fun r F1 => (0 ≤ r.toInt ∧ r.toInt ≤ 1) ∧ ((∀ b j : Nat, (tag b ≠ 19 ∨ j ≠ 0) → (tag b ≠ 19 ∨ j ≠ 1) → (tag b ≠ 23 ∨ j ≠ 2) → (tag b ≠ 23 ∨ j ≠ 3) → (tag b ≠ 26 ∨ j ≠ 13) → fld F1 b j = fld Fo b j) ∧ EF tag F1 Fo)) := by
  refine t_bodyi (y := yX11_move) (cd := cX11_move) (mL := 3) (rt := (some .boolean)) (rm := { frames := 3, cells := 0, slots := 0, locals := 68 }) (av := [.ref p0, .int p1, .int p2]) (by decide) (Nat.le_of_ble_eq_true rfl) ho ?_
  intro p e s m args below meth c ls A Q hQ X hT hl
  have hx := X.1.1
  have hb := X.1.2.1
  have hl : lv_has ls 3 [(0, .ref p0), (1, .int p1), (2, .int p2)] := hl
  have rp1 := rg_all p1
  have rp2 := rg_all p2
  obtain ⟨F, hFo⟩ : ∃ F : Nat → va_E, F = Fo := ⟨_, rfl⟩
  rw [← hFo] at hT
  have hfr : (∀ b j : Nat, (tag b ≠ 19 ∨ j ≠ 0) → (tag b ≠ 19 ∨ j ≠ 1) → (tag b ≠ 23 ∨ j ≠ 2) → (tag b ≠ 23 ∨ j ≠ 3) → (tag b ≠ 26 ∨ j ≠ 13) → fld F b j = fld Fo b j) ∧ EF tag F Fo := by
    rw [hFo]
    exact ⟨by intros; rfl, fun _ _ _ => rfl⟩
  have K25 : ∀  (F : Nat → va_E) (H : Heap) (locs : List Loc) (ls : Array Slot), TH G ttC A s tag L F H locs → ((∀ b j : Nat, (tag b ≠ 19 ∨ j ≠ 0) → (tag b ≠ 19 ∨ j ≠ 1) → (tag b ≠ 23 ∨ j ≠ 2) → (tag b ≠ 23 ∨ j ≠ 3) → (tag b ≠ 26 ∨ j ≠ 13) → fld F b j = fld Fo b j) ∧ EF tag F Fo) → lv_has ls 3 [(0, .ref p0), (1, .int p1), (2, .int p2)] → W p l e { frames := 3, cells := 0, slots := 0, locals := 68 } s m args below meth c H locs 0 0 Q (F0 m 25 ls []) := by
    intro F H locs ls hT hfr hl
    refine lv_aload_n hx hb dX11_move_25 rfl (lv_at hl 0 rfl) ?_
    refine lv_iconst (v := 1) hx hb dX11_move_26 (by decide) ?_
    refine t_cVi (n := 1) (C := RX11) (T := TX11) (N := 16) (As := [.int 1]) (rest := []) X hT (kt352_X11_no l G tag L F hT.2.2.2 p0 1 m0 g0) m0 g0 rfl rfl qw_1454 qw_1455 qw_1456 qw_2 qw_1457 ⟨rfl, by decide +kernel, by decide +kernel, by decide +kernel⟩ ⟨Nat.le_of_ble_eq_true rfl, Nat.le_of_ble_eq_true rfl⟩ hl rfl rfl (Nat.le_of_ble_eq_true rfl) dX11_move_27 ⟨Nat.le_of_ble_eq_true rfl, Nat.le_of_ble_eq_true rfl⟩ (fun z125417 F H locs hT hz125417 => ?_)
    obtain ⟨hz125417, yz125417⟩ := hz125417
    have hfr : (∀ b j : Nat, (tag b ≠ 19 ∨ j ≠ 0) → (tag b ≠ 19 ∨ j ≠ 1) → (tag b ≠ 23 ∨ j ≠ 2) → (tag b ≠ 23 ∨ j ≠ 3) → (tag b ≠ 26 ∨ j ≠ 13) → fld F b j = fld Fo b j) ∧ EF tag F Fo := ⟨fun b j n19_0 n19_1 n23_2 n23_3 n26_13 => (yz125417.1 b j n26_13).trans (hfr.1 b j n19_0 n19_1 n23_2 n23_3 n26_13), fun b j hb => (yz125417.2 b j hb).trans (hfr.2 b j hb)⟩
    exact t_zret hQ X hT (nar_z (by omega)) (⟨(by omega), hfr⟩) (Nat.le_of_ble_eq_true rfl) (Nat.le_of_ble_eq_true rfl) dX11_move_30
  have K68 : ∀  (F : Nat → va_E) (H : Heap) (locs : List Loc) (ls : Array Slot), (0 ≤ p1.toInt ∧ p1.toInt ≤ 5) → (0 ≤ p2.toInt ∧ p2.toInt ≤ 6) → TH G ttC A s tag L F H locs → ((∀ b j : Nat, (tag b ≠ 19 ∨ j ≠ 0) → (tag b ≠ 19 ∨ j ≠ 1) → (tag b ≠ 23 ∨ j ≠ 2) → (tag b ≠ 23 ∨ j ≠ 3) → (tag b ≠ 26 ∨ j ≠ 13) → fld F b j = fld Fo b j) ∧ EF tag F Fo) → lv_has ls 3 [(0, .ref p0), (1, .int p1), (2, .int p2)] → W p l e { frames := 3, cells := 0, slots := 0, locals := 68 } s m args below meth c H locs 0 0 Q (F0 m 68 ls []) := by
    intro F H locs ls r9s125418 r9s125419 hT hfr hl
    refine lv_aload_n hx hb dX11_move_68 rfl (lv_at hl 0 rfl) ?_
    refine lv_iconst (v := 5) hx hb dX11_move_69 (by decide) ?_
    refine t_cVi (n := 1) (C := RX11) (T := TX11) (N := 16) (As := [.int 5]) (rest := []) X hT (kt352_X11_no l G tag L F hT.2.2.2 p0 5 m0 g0) m0 g0 rfl rfl qw_1454 qw_1455 qw_1456 qw_2 qw_1457 ⟨rfl, by decide +kernel, by decide +kernel, by decide +kernel⟩ ⟨Nat.le_of_ble_eq_true rfl, Nat.le_of_ble_eq_true rfl⟩ hl rfl rfl (Nat.le_of_ble_eq_true rfl) dX11_move_70 ⟨Nat.le_of_ble_eq_true rfl, Nat.le_of_ble_eq_true rfl⟩ (fun z125420 F H locs hT hz125420 => ?_)
    obtain ⟨hz125420, yz125420⟩ := hz125420
    have hfr : (∀ b j : Nat, (tag b ≠ 19 ∨ j ≠ 0) → (tag b ≠ 19 ∨ j ≠ 1) → (tag b ≠ 23 ∨ j ≠ 2) → (tag b ≠ 23 ∨ j ≠ 3) → (tag b ≠ 26 ∨ j ≠ 13) → fld F b j = fld Fo b j) ∧ EF tag F Fo := ⟨fun b j n19_0 n19_1 n23_2 n23_3 n26_13 => (yz125420.1 b j n26_13).trans (hfr.1 b j n19_0 n19_1 n23_2 n23_3 n26_13), fun b j hb => (yz125420.2 b j hb).trans (hfr.2 b j hb)⟩
    exact t_zret hQ X hT (nar_z (by omega)) (⟨(by omega), hfr⟩) (Nat.le_of_ble_eq_true rfl) (Nat.le_of_ble_eq_true rfl) dX11_move_73
  have K74 : ∀  (F : Nat → va_E) (H : Heap) (locs : List Loc) (ls : Array Slot), (0 ≤ p1.toInt ∧ p1.toInt ≤ 5) → (0 ≤ p2.toInt ∧ p2.toInt ≤ 6) → TH G ttC A s tag L F H locs → ((∀ b j : Nat, (tag b ≠ 19 ∨ j ≠ 0) → (tag b ≠ 19 ∨ j ≠ 1) → (tag b ≠ 23 ∨ j ≠ 2) → (tag b ≠ 23 ∨ j ≠ 3) → (tag b ≠ 26 ∨ j ≠ 13) → fld F b j = fld Fo b j) ∧ EF tag F Fo) → lv_has ls 3 [(0, .ref p0), (1, .int p1), (2, .int p2)] → W p l e { frames := 3, cells := 0, slots := 0, locals := 68 } s m args below meth c H locs 0 0 Q (F0 m 74 ls []) := by
    intro F H locs ls r9s125421 r9s125422 hT hfr hl
    refine lv_aload_n hx hb dX11_move_74 rfl (lv_at hl 0 rfl) ?_
    refine t_get (C := RX11) (T := TX11) (N := 16) X hT m0 g0 rfl rfl 12 (by decide) qw_45 inlX11 rfl dX11_move_75 (fun v125423 hv125423 ov125423 => ?_)
    obtain ⟨b125424, rfl, mb125424, gb125424⟩ := okV_r ov125423
    have gb125424 : tag b125424 = 23 := tg_of gb125424
    refine lv_aload_n hx hb dX11_move_78 rfl (lv_at hl 0 rfl) ?_
    refine t_get (C := RX11) (T := TX11) (N := 16) X hT m0 g0 rfl rfl 5 (by decide) qw_23 inlX11 rfl dX11_move_79 (fun v125425 hv125425 ov125425 => ?_)
    obtain ⟨b125426, rfl, mb125426, gb125426⟩ := okV_r ov125425
    have gb125426 : tag b125426 = 19 := tg_of gb125426
    refine t_cVv (n := 1) (C := RX2) (T := TX2) (N := 5) (As := [.ref b125426]) (rest := []) X hT (kt360_X2_keep l G tag L F hT.2.2.2 b125424 b125426 mb125424 gb125424 mb125426 gb125426) mb125424 gb125424 rfl rfl qw_1427 qw_1428 qw_1429 qw_44 qw_1430 ⟨rfl, by decide +kernel, by decide +kernel, by decide +kernel⟩ ⟨Nat.le_of_ble_eq_true rfl, Nat.le_of_ble_eq_true rfl⟩ hl rfl rfl (Nat.le_of_ble_eq_true rfl) dX11_move_82 ⟨Nat.le_of_ble_eq_true rfl, Nat.le_of_ble_eq_true rfl⟩ (fun F H locs hT hz125427 => ?_)
    have yz125427 := hz125427
    have hv125423 := (yz125427.1 _ 12 (Or.inr (by decide)) (Or.inr (by decide)) (Or.inr (by decide)) (Or.inr (by decide))).trans hv125423
    have hv125425 := (yz125427.1 _ 5 (Or.inr (by decide)) (Or.inr (by decide)) (Or.inr (by decide)) (Or.inr (by decide))).trans hv125425
    have hfr : (∀ b j : Nat, (tag b ≠ 19 ∨ j ≠ 0) → (tag b ≠ 19 ∨ j ≠ 1) → (tag b ≠ 23 ∨ j ≠ 2) → (tag b ≠ 23 ∨ j ≠ 3) → (tag b ≠ 26 ∨ j ≠ 13) → fld F b j = fld Fo b j) ∧ EF tag F Fo := ⟨fun b j n19_0 n19_1 n23_2 n23_3 n26_13 => (yz125427.1 b j n19_0 n19_1 n23_2 n23_3).trans (hfr.1 b j n19_0 n19_1 n23_2 n23_3 n26_13), fun b j hb => (yz125427.2 b j hb).trans (hfr.2 b j hb)⟩
    refine lv_aload_n hx hb dX11_move_85 rfl (lv_at hl 0 rfl) ?_
    refine t_get (C := RX11) (T := TX11) (N := 16) X hT m0 g0 rfl rfl 5 (by decide) qw_23 inlX11 rfl dX11_move_86 (fun v125428 hv125428 ov125428 => ?_)
    obtain rfl : v125428 = .ref b125426 := hv125428.symm.trans hv125425
    refine t_get (C := RX7) (T := TX7) (N := 7) X hT mb125426 gb125426 rfl rfl 5 (by decide) qw_886 inlX7 rfl dX11_move_89 (fun v125429 hv125429 ov125429 => ?_)
    obtain ⟨b125430, rfl, mb125430, gb125430⟩ := okV_r ov125429
    have gb125430 : tag b125430 = 7 := tg_of gb125430
    refine lv_iload_n hx hb dX11_move_92 rfl (lv_at hl 1 rfl) ?_
    refine lv_iload_n hx hb dX11_move_93 rfl (lv_at hl 2 rfl) ?_
    refine t_ist X hT mb125430 gb125430 rfl (by omega) (show (-2147483648) ≤ (p2 : Int32).toInt ∧ (p2 : Int32).toInt ≤ 2147483647 from (by omega)) dX11_move_94 (fun F H locs hT v125431 h1v125431 h2v125431 => ?_)
    have hv125423 := (h2v125431 _ _).trans hv125423
    have hv125425 := (h2v125431 _ _).trans hv125425
    have hv125429 := (h2v125431 _ _).trans hv125429
    have hfr : (∀ b j : Nat, (tag b ≠ 19 ∨ j ≠ 0) → (tag b ≠ 19 ∨ j ≠ 1) → (tag b ≠ 23 ∨ j ≠ 2) → (tag b ≠ 23 ∨ j ≠ 3) → (tag b ≠ 26 ∨ j ≠ 13) → fld F b j = fld Fo b j) ∧ EF tag F Fo := ⟨fun b j n19_0 n19_1 n23_2 n23_3 n26_13 => (h2v125431 b j).trans (hfr.1 b j n19_0 n19_1 n23_2 n23_3 n26_13), fun b j hb => (h1v125431 b j (Or.inl (ns_ne hb gb125430 (by decide)))).trans (hfr.2 b j hb)⟩
    refine lv_aload_n hx hb dX11_move_95 rfl (lv_at hl 0 rfl) ?_
    refine t_cVi (n := 0) (C := RX11) (T := TX11) (N := 16) (As := []) (rest := []) X hT (kt353_X11_yes l G tag L F hT.2.2.2 p0 m0 g0) m0 g0 rfl rfl qw_1460 qw_1461 qw_1462 qw_2 qw_1463 ⟨rfl, by decide +kernel, by decide +kernel, by decide +kernel⟩ ⟨Nat.le_of_ble_eq_true rfl, Nat.le_of_ble_eq_true rfl⟩ hl rfl rfl (Nat.le_of_ble_eq_true rfl) dX11_move_96 ⟨Nat.le_of_ble_eq_true rfl, Nat.le_of_ble_eq_true rfl⟩ (fun z125432 F H locs hT hz125432 => ?_)
    obtain ⟨hz125432, yz125432⟩ := hz125432
    have hv125423 := (yz125432.1 _ 12 (Or.inr (by decide))).trans hv125423
    have hv125425 := (yz125432.1 _ 5 (Or.inr (by decide))).trans hv125425
    have hv125429 := (yz125432.1 _ 5 (Or.inr (by decide))).trans hv125429
    have hfr : (∀ b j : Nat, (tag b ≠ 19 ∨ j ≠ 0) → (tag b ≠ 19 ∨ j ≠ 1) → (tag b ≠ 23 ∨ j ≠ 2) → (tag b ≠ 23 ∨ j ≠ 3) → (tag b ≠ 26 ∨ j ≠ 13) → fld F b j = fld Fo b j) ∧ EF tag F Fo := ⟨fun b j n19_0 n19_1 n23_2 n23_3 n26_13 => (yz125432.1 b j n26_13).trans (hfr.1 b j n19_0 n19_1 n23_2 n23_3 n26_13), fun b j hb => (yz125432.2 b j hb).trans (hfr.2 b j hb)⟩
    exact t_zret hQ X hT (nar_z (by omega)) (⟨(by omega), hfr⟩) (Nat.le_of_ble_eq_true rfl) (Nat.le_of_ble_eq_true rfl) dX11_move_99
  refine lv_aload_n hx hb dX11_move_0 rfl (lv_at hl 0 rfl) ?_
  refine lv_iload_n hx hb dX11_move_1 rfl (lv_at hl 1 rfl) ?_
  refine t_cVi (n := 1) (C := RX11) (T := TX11) (N := 16) (As := [.int p1]) (rest := []) X hT (kt378_X11_isHeir l G tag L F hT.2.2.2 p0 p1 m0 g0) m0 g0 rfl rfl qw_887 qw_888 qw_889 qw_2 qw_890 ⟨rfl, by decide +kernel, by decide +kernel, by decide +kernel⟩ ⟨Nat.le_of_ble_eq_true rfl, Nat.le_of_ble_eq_true rfl⟩ hl rfl rfl (Nat.le_of_ble_eq_true rfl) dX11_move_2 ⟨Nat.le_of_ble_eq_true rfl, Nat.le_of_ble_eq_true rfl⟩ (fun z125433 F9 H locs hT hz125433 => ?_)
  obtain ⟨fz125433, hz125433⟩ := hz125433
  rw [fz125433] at hT
  obtain ⟨hz125433, iz125433⟩ := hz125433
  refine lv_if_eq (tgt := 25) hx hb dX11_move_5 (by decide) (fun c125434 => ?_) (fun c125434 => ?_)
  · have w125435 := cv_eq (rfl : z125433.toInt = z125433.toInt) (by decide : (0 : Int32).toInt = 0) c125434
    exact K25  _ _ _ _  hT hfr  (lv_sub hl [0, 1, 2] rfl)
  · have w125436 := cv_ne (rfl : z125433.toInt = z125433.toInt) (by decide : (0 : Int32).toInt = 0) c125434
    have w125437 := (fun h => (iz125433 h)) (by omega)
    refine lv_aload_n hx hb dX11_move_8 rfl (lv_at hl 0 rfl) ?_
    refine lv_aload_n hx hb dX11_move_9 rfl (lv_at hl 0 rfl) ?_
    refine t_get (C := RX11) (T := TX11) (N := 16) X hT m0 g0 rfl rfl 3 (by decide) qw_18 inlX11 rfl dX11_move_10 (fun v125438 hv125438 ov125438 => ?_)
    obtain ⟨b125439, rfl, mb125439, gb125439⟩ := okV_r ov125438
    have gb125439 : tag b125439 = 18 := tg_of gb125439
    refine t_get (C := RX1) (T := TX1) (N := 20) X hT mb125439 gb125439 rfl rfl 15 (by decide) qw_885 inlX1 rfl dX11_move_13 (fun v125440 hv125440 ov125440 => ?_)
    obtain ⟨b125441, rfl, mb125441, gb125441⟩ := okV_r ov125440
    have gb125441 : tag b125441 = 6 := tg_of gb125441
    refine lv_iload_n hx hb dX11_move_16 rfl (lv_at hl 1 rfl) ?_
    refine t_ild X hT mb125441 gb125441 rfl (by omega) dX11_move_17 (fun z125442 vz125442 rz125442 => ?_)
    have rz125442 : 0 ≤ z125442.toInt ∧ z125442.toInt ≤ 3 := rz125442
    refine lv_iload_n hx hb dX11_move_18 rfl (lv_at hl 2 rfl) ?_
    refine t_cVi (n := 2) (C := RX11) (T := TX11) (N := 16) (As := [.int z125442, .int p2]) (rest := []) X hT (kt356_X11_isRoom l G tag L F hT.2.2.2 p0 z125442 p2 m0 g0) m0 g0 rfl rfl qw_827 qw_828 qw_829 qw_2 qw_830 ⟨rfl, by decide +kernel, by decide +kernel, by decide +kernel⟩ ⟨Nat.le_of_ble_eq_true rfl, Nat.le_of_ble_eq_true rfl⟩ hl rfl rfl (Nat.le_of_ble_eq_true rfl) dX11_move_19 ⟨Nat.le_of_ble_eq_true rfl, Nat.le_of_ble_eq_true rfl⟩ (fun z125443 F9 H locs hT hz125443 => ?_)
    obtain ⟨fz125443, hz125443⟩ := hz125443
    rw [fz125443] at hT
    obtain ⟨hz125443, iz125443⟩ := hz125443
    refine lv_if_ne (tgt := 31) hx hb dX11_move_22 (by decide) (fun c125444 => ?_) (fun c125444 => ?_)
    · have w125445 := cv_ne (rfl : z125443.toInt = z125443.toInt) (by decide : (0 : Int32).toInt = 0) c125444
      have w125446 := (fun h => (iz125443 h).1) (by omega)
      have w125447 := (fun h => (iz125443 h).2) (by omega)
      refine lv_aload_n hx hb dX11_move_31 rfl (lv_at hl 0 rfl) ?_
      refine t_get (C := RX11) (T := TX11) (N := 16) X hT m0 g0 rfl rfl 5 (by decide) qw_23 inlX11 rfl dX11_move_32 (fun v125448 hv125448 ov125448 => ?_)
      obtain ⟨b125449, rfl, mb125449, gb125449⟩ := okV_r ov125448
      have gb125449 : tag b125449 = 19 := tg_of gb125449
      refine t_get (C := RX7) (T := TX7) (N := 7) X hT mb125449 gb125449 rfl rfl 5 (by decide) qw_886 inlX7 rfl dX11_move_35 (fun v125450 hv125450 ov125450 => ?_)
      obtain ⟨b125451, rfl, mb125451, gb125451⟩ := okV_r ov125450
      have gb125451 : tag b125451 = 7 := tg_of gb125451
      refine lv_iload_n hx hb dX11_move_38 rfl (lv_at hl 1 rfl) ?_
      refine t_ild X hT mb125451 gb125451 rfl (by omega) dX11_move_39 (fun z125452 vz125452 rz125452 => ?_)
      have rz125452 : (-2147483648) ≤ z125452.toInt ∧ z125452.toInt ≤ 2147483647 := rz125452
      refine lv_iload_n hx hb dX11_move_40 rfl (lv_at hl 2 rfl) ?_
      refine lv_icmp_eq (tgt := 68) hx hb dX11_move_41 (by decide) (fun c125453 => ?_) (fun c125453 => ?_)
      · have w125454 := cv_eq (rfl : z125452.toInt = z125452.toInt) (rfl : p2.toInt = p2.toInt) c125453
        exact K68  _ _ _ _ (by omega) (by omega) hT hfr  (lv_sub hl [0, 1, 2] rfl)
      · have w125455 := cv_ne (rfl : z125452.toInt = z125452.toInt) (rfl : p2.toInt = p2.toInt) c125453
        refine lv_iload_n hx hb dX11_move_44 rfl (lv_at hl 2 rfl) ?_
        refine lv_if_le (tgt := 74) hx hb dX11_move_45 (by decide) (fun c125456 => ?_) (fun c125456 => ?_)
        · have w125457 := cv_le (rfl : p2.toInt = p2.toInt) (by decide : (0 : Int32).toInt = 0) c125456
          exact K74  _ _ _ _ (by omega) (by omega) hT hfr  (lv_sub hl [0, 1, 2] rfl)
        · have w125458 := cv_nle (rfl : p2.toInt = p2.toInt) (by decide : (0 : Int32).toInt = 0) c125456
          refine lv_aload_n hx hb dX11_move_48 rfl (lv_at hl 0 rfl) ?_
          refine t_get (C := RX11) (T := TX11) (N := 16) X hT m0 g0 rfl rfl 5 (by decide) qw_23 inlX11 rfl dX11_move_49 (fun v125459 hv125459 ov125459 => ?_)
          obtain rfl : v125459 = .ref b125449 := hv125459.symm.trans hv125448
          refine lv_aload_n hx hb dX11_move_52 rfl (lv_at hl 0 rfl) ?_
          refine t_get (C := RX11) (T := TX11) (N := 16) X hT m0 g0 rfl rfl 3 (by decide) qw_18 inlX11 rfl dX11_move_53 (fun v125460 hv125460 ov125460 => ?_)
          obtain rfl : v125460 = .ref b125439 := hv125460.symm.trans hv125438
          refine t_get (C := RX1) (T := TX1) (N := 20) X hT mb125439 gb125439 rfl rfl 15 (by decide) qw_885 inlX1 rfl dX11_move_56 (fun v125461 hv125461 ov125461 => ?_)
          obtain rfl : v125461 = .ref b125441 := hv125461.symm.trans hv125440
          refine lv_iload_n hx hb dX11_move_59 rfl (lv_at hl 1 rfl) ?_
          refine t_ild X hT mb125441 gb125441 rfl (by omega) dX11_move_60 (fun z125462 vz125462 rz125462 => ?_)
          obtain rfl : z125442 = z125462 := vz125442.symm.trans vz125462
          refine lv_iload_n hx hb dX11_move_61 rfl (lv_at hl 2 rfl) ?_
          refine t_cVi (n := 2) (C := RX7) (T := TX7) (N := 7) (As := [.int z125442, .int p2]) (rest := []) X hT (kt313_X7_isOpen l G tag L F hT.2.2.2 b125449 z125442 p2 mb125449 gb125449) mb125449 gb125449 rfl rfl qw_1458 qw_984 qw_985 qw_22 qw_986 ⟨rfl, by decide +kernel, by decide +kernel, by decide +kernel⟩ ⟨Nat.le_of_ble_eq_true rfl, Nat.le_of_ble_eq_true rfl⟩ hl rfl rfl (Nat.le_of_ble_eq_true rfl) dX11_move_62 ⟨Nat.le_of_ble_eq_true rfl, Nat.le_of_ble_eq_true rfl⟩ (fun z125463 F9 H locs hT hz125463 => ?_)
          obtain ⟨fz125463, hz125463⟩ := hz125463
          rw [fz125463] at hT
          refine lv_if_ne (tgt := 74) hx hb dX11_move_65 (by decide) (fun c125464 => ?_) (fun c125464 => ?_)
          · have w125465 := cv_ne (rfl : z125463.toInt = z125463.toInt) (by decide : (0 : Int32).toInt = 0) c125464
            exact K74  _ _ _ _ (by omega) (by omega) hT hfr  (lv_sub hl [0, 1, 2] rfl)
          · have w125466 := cv_eq (rfl : z125463.toInt = z125463.toInt) (by decide : (0 : Int32).toInt = 0) c125464
            exact K68  _ _ _ _ (by omega) (by omega) hT hfr  (lv_sub hl [0, 1, 2] rfl)
    · have w125467 := cv_eq (rfl : z125443.toInt = z125443.toInt) (by decide : (0 : Int32).toInt = 0) c125444
      exact K25  _ _ _ _  hT hfr  (lv_sub hl [0, 1, 2] rfl)
set_option maxHeartbeats 4000000 in
set_option maxRecDepth 100000 in
theorem kt401_X9_wallAt (l : Launch) (G : KG) (tag : Nat → Nat) (L : List Nat) (Fo : Nat → va_E) (ho : okT G ttC tag L Fo) (p0 : Nat) (p1 : Nat) (p2 : Int32) (p3 : Int32) (p4 : Int32) (m0 : p0 ∈ L) (g0 : tag p0 = 22) (m1 : p1 ∈ L) (g1 : tag p1 = 18) (h4 : 0 ≤ p4.toInt ∧ p4.toInt ≤ 5) : TMi l yX9_wallAt cX9_wallAt 7 (some .int) { frames := 3, cells := 0, slots := 0, locals := 63 } G ttC tag L Fo [.ref p0, .ref p1, .int p2, .int p3, .int p4] (fun r F1 => ((-2) ≤ r.toInt ∧ r.toInt ≤ 5) ∧ ((∀ b j : Nat, fld F1 b j = fld Fo b j) ∧ EF tag F1 Fo)) := by
  refine t_bodyi (y := yX9_wallAt) (cd := cX9_wallAt) (mL := 7) (rt := (some .int)) (rm := { frames := 3, cells := 0, slots := 0, locals := 63 }) (av := [.ref p0, .ref p1, .int p2, .int p3, .int p4]) (by decide) (Nat.le_of_ble_eq_true rfl) ho ?_
  intro p e s m args below meth c ls A Q hQ X hT hl
  have hx := X.1.1
  have hb := X.1.2.1
  have hl : lv_has ls 7 [(0, .ref p0), (1, .ref p1), (2, .int p2), (3, .int p3), (4, .int p4)] := hl
  have rp2 := rg_all p2
  have rp3 := rg_all p3
  obtain ⟨F, hFo⟩ : ∃ F : Nat → va_E, F = Fo := ⟨_, rfl⟩
  rw [← hFo] at hT
  have hfr : (∀ b j : Nat, fld F b j = fld Fo b j) ∧ EF tag F Fo := by
    rw [hFo]
    exact ⟨by intros; rfl, fun _ _ _ => rfl⟩
  have K17 : ∀ (n : Nat) (z126535 : Int32) (z126536 : Int32) (z126537 : Int32) (F : Nat → va_E) (H : Heap) (locs : List Loc) (ls : Array Slot), (720 - z126536.toInt < (n : Int)) → (0 ≤ z126536.toInt ∧ z126536.toInt ≤ 720) → (0 ≤ z126537.toInt ∧ z126537.toInt ≤ 6) → TH G ttC A s tag L F H locs → ((∀ b j : Nat, fld F b j = fld Fo b j) ∧ EF tag F Fo) → fld F p1 16 = .int z126537 → lv_has ls 7 [(0, .ref p0), (1, .ref p1), (2, .int p2), (3, .int p3), (4, .int p4), (5, .int z126535), (6, .int z126536)] → W p l e { frames := 3, cells := 0, slots := 0, locals := 63 } s m args below meth c H locs 0 0 Q (F0 m 17 ls []) := by
    intro n
    induction n with
    | zero =>
      intro z126535 z126536 z126537 F H locs ls hn rz126536 rz126537 hT hfr qz126537 hl
      have rz126535 := rg_all z126535
      exfalso
      omega
    | succ n ih17 =>
      intro z126535 z126536 z126537 F H locs ls hn rz126536 rz126537 hT hfr qz126537 hl
      have rz126535 := rg_all z126535
      have K56 : ∀ (z126538 : Int32) (z126540 : Int32) (F : Nat → va_E) (H : Heap) (locs : List Loc) (ls : Array Slot), (0 ≤ z126540.toInt ∧ z126540.toInt ≤ 6) → (0 ≤ z126536.toInt ∧ z126536.toInt ≤ 719) → TH G ttC A s tag L F H locs → ((∀ b j : Nat, fld F b j = fld Fo b j) ∧ EF tag F Fo) → fld F p1 16 = .int z126540 → lv_has ls 7 [(0, .ref p0), (1, .ref p1), (2, .int p2), (3, .int p3), (4, .int p4), (5, .int z126538), (6, .int z126536)] → W p l e { frames := 3, cells := 0, slots := 0, locals := 63 } s m args below meth c H locs 0 0 Q (F0 m 56 ls []) := by
        intro z126538 z126540 F H locs ls rz126540 r9s126539 hT hfr qz126540 hl
        have rz126538 := rg_all z126538
        refine lv_aload_n hx hb dX9_wallAt_56 rfl (lv_at hl 0 rfl) ?_
        refine t_get (C := RX9) (T := TX9) (N := 6) X hT m0 g0 rfl rfl 0 (by decide) qw_93 inlX9 rfl dX9_wallAt_57 (fun v126541 hv126541 ov126541 => ?_)
        obtain ⟨b126542, rfl, mb126542, gb126542⟩ := okV_r ov126541
        have gb126542 : tag b126542 = 11 := tg_of gb126542
        refine lv_aload_n hx hb dX9_wallAt_60 rfl (lv_at hl 1 rfl) ?_
        refine t_get (C := RX1) (T := TX1) (N := 20) X hT m1 g1 rfl rfl 16 (by decide) qw_1338 inlX1 rfl dX9_wallAt_61 (fun v126543 hv126543 ov126543 => ?_)
        obtain rfl : v126543 = .int z126540 := hv126543.symm.trans qz126540
        refine t_cSv (n := 2) (As := [.ref b126542, .int z126540]) (rest := []) X hT (kt392_X5_advance l G tag L F hT.2.2.2 b126542 z126540 mb126542 gb126542 (by omega)) qw_1356 qw_1248 qw_1242 qw_1249 ⟨by decide +kernel, by decide +kernel, by decide +kernel⟩ ⟨Nat.le_of_ble_eq_true rfl, Nat.le_of_ble_eq_true rfl⟩ hl rfl rfl (Nat.le_of_ble_eq_true rfl) dX9_wallAt_64 ⟨Nat.le_of_ble_eq_true rfl, Nat.le_of_ble_eq_true rfl⟩ (fun F H locs hT hz126544 => ?_)
        have yz126544 := hz126544
        have qz126540 := (yz126544.1 _ 16 ).trans qz126540
        have hv126541 := (yz126544.1 _ 0 ).trans hv126541
        have hfr : (∀ b j : Nat, fld F b j = fld Fo b j) ∧ EF tag F Fo := ⟨fun b j  => (yz126544.1 b j ).trans (hfr.1 b j ), fun b j hb => (yz126544.2 b j hb).trans (hfr.2 b j hb)⟩
        obtain ⟨z126545, ez126545⟩ : ∃ y : Int32, y = z126536 + 1 := ⟨_, rfl⟩
        have hz126545 : z126545.toInt = z126536.toInt + 1 := ar_add ez126545 rfl (by decide : (1 : Int32).toInt = 1) (by omega) (by omega)
        refine lv_iinc (v := z126545) (lv' := [(6, .int z126545), (0, .ref p0), (1, .ref p1), (2, .int p2), (3, .int p3), (4, .int p4), (5, .int z126538)]) hx hb dX9_wallAt_67 hl (k := 6) rfl (by rw [ez126545]; rfl) (by decide) rfl (fun ls hl => ?_)
        refine lv_goto (tgt := 17) hx hb dX9_wallAt_70 (by decide) ?_
        exact ih17 z126538 z126545 z126540 _ _ _ _ (by omega) (by omega) (by omega) hT hfr qz126540 (lv_sub hl [1, 2, 3, 4, 5, 6, 0] rfl)
      refine lv_iload hx hb dX9_wallAt_17 (lv_at hl 6 rfl) ?_
      refine t_getsN X hT X.2.2.2.1.2.1.2.2.1 (List.mem_of_getElem? (i := 3) rfl) dX9_wallAt_19 ?_
      refine lv_aload_n hx hb dX9_wallAt_22 rfl (lv_at hl 1 rfl) ?_
      refine t_get (C := RX1) (T := TX1) (N := 20) X hT m1 g1 rfl rfl 16 (by decide) qw_1338 inlX1 rfl dX9_wallAt_23 (fun v126546 hv126546 ov126546 => ?_)
      obtain rfl : v126546 = .int z126537 := hv126546.symm.trans qz126537
      refine t_tild X hT X.2.2.2.1.2.1.2.2.1 (by omega) dX9_wallAt_26 (fun z126547 ez126547 => ?_)
      have rz126547 : 1 ≤ z126547.toInt ∧ z126547.toInt ≤ 720 := by rw [ez126547]; exact gRows_r _
      refine lv_icmp_ge (tgt := 73) hx hb dX9_wallAt_27 (by decide) (fun c126548 => ?_) (fun c126548 => ?_)
      · have w126549 := cv_le (rfl : z126547.toInt = z126547.toInt) (rfl : z126536.toInt = z126536.toInt) c126548
        refine lv_bipush (v := (-2)) hx hb dX9_wallAt_73 (by decide) ?_
        exact t_iret hQ X hT (⟨(by decide), hfr⟩) (Nat.le_of_ble_eq_true rfl) (Nat.le_of_ble_eq_true rfl) dX9_wallAt_75
      · have w126550 := cv_nle (rfl : z126547.toInt = z126547.toInt) (rfl : z126536.toInt = z126536.toInt) c126548
        refine lv_aload_n hx hb dX9_wallAt_30 rfl (lv_at hl 0 rfl) ?_
        refine lv_aload_n hx hb dX9_wallAt_31 rfl (lv_at hl 1 rfl) ?_
        refine lv_iload_n hx hb dX9_wallAt_32 rfl (lv_at hl 2 rfl) ?_
        refine t_cVi (n := 2) (C := RX9) (T := TX9) (N := 6) (As := [.ref p1, .int p2]) (rest := []) X hT (kt387_X9_canBe l G tag L F hT.2.2.2 p0 p1 p2 m0 g0 m1 g1) m0 g0 rfl rfl qw_1340 qw_1341 qw_1342 qw_40 qw_1343 ⟨rfl, by decide +kernel, by decide +kernel, by decide +kernel⟩ ⟨Nat.le_of_ble_eq_true rfl, Nat.le_of_ble_eq_true rfl⟩ hl rfl rfl (Nat.le_of_ble_eq_true rfl) dX9_wallAt_33 ⟨Nat.le_of_ble_eq_true rfl, Nat.le_of_ble_eq_true rfl⟩ (fun z126551 F H locs hT hz126551 => ?_)
        obtain ⟨hz126551, yz126551⟩ := hz126551
        have qz126537 := (yz126551.1 _ 16 ).trans qz126537
        have hfr : (∀ b j : Nat, fld F b j = fld Fo b j) ∧ EF tag F Fo := ⟨fun b j  => (yz126551.1 b j ).trans (hfr.1 b j ), fun b j hb => (yz126551.2 b j hb).trans (hfr.2 b j hb)⟩
        refine lv_if_eq (tgt := 56) hx hb dX9_wallAt_36 (by decide) (fun c126552 => ?_) (fun c126552 => ?_)
        · have w126553 := cv_eq (rfl : z126551.toInt = z126551.toInt) (by decide : (0 : Int32).toInt = 0) c126552
          exact K56 z126535 z126537 _ _ _ _ (by omega) (by omega) hT hfr qz126537 (lv_sub hl [0, 1, 2, 3, 4, 5, 6] rfl)
        · have w126554 := cv_ne (rfl : z126551.toInt = z126551.toInt) (by decide : (0 : Int32).toInt = 0) c126552
          refine lv_iload hx hb dX9_wallAt_39 (lv_at hl 5 rfl) ?_
          refine lv_iload_n hx hb dX9_wallAt_41 rfl (lv_at hl 3 rfl) ?_
          refine lv_icmp_ne (tgt := 53) hx hb dX9_wallAt_42 (by decide) (fun c126555 => ?_) (fun c126555 => ?_)
          · have w126556 := cv_ne (rfl : z126535.toInt = z126535.toInt) (rfl : p3.toInt = p3.toInt) c126555
            obtain ⟨z126557, ez126557⟩ : ∃ y : Int32, y = z126535 + 1 := ⟨_, rfl⟩
            have rz126557 := rg_all z126557
            refine lv_iinc (v := z126557) (lv' := [(5, .int z126557), (0, .ref p0), (1, .ref p1), (2, .int p2), (3, .int p3), (4, .int p4), (6, .int z126536)]) hx hb dX9_wallAt_53 hl (k := 5) rfl (by rw [ez126557]; rfl) (by decide) rfl (fun ls hl => ?_)
            exact K56 z126557 z126537 _ _ _ _ (by omega) (by omega) hT hfr qz126537 (lv_sub hl [1, 2, 3, 4, 5, 0, 6] rfl)
          · have w126558 := cv_eq (rfl : z126535.toInt = z126535.toInt) (rfl : p3.toInt = p3.toInt) c126555
            refine lv_aload_n hx hb dX9_wallAt_45 rfl (lv_at hl 0 rfl) ?_
            refine t_get (C := RX9) (T := TX9) (N := 6) X hT m0 g0 rfl rfl 0 (by decide) qw_93 inlX9 rfl dX9_wallAt_46 (fun v126559 hv126559 ov126559 => ?_)
            obtain ⟨b126560, rfl, mb126560, gb126560⟩ := okV_r ov126559
            have gb126560 : tag b126560 = 11 := tg_of gb126560
            refine lv_iload hx hb dX9_wallAt_49 (lv_at hl 4 rfl) ?_
            refine t_ild X hT mb126560 gb126560 rfl (by omega) dX9_wallAt_51 (fun z126561 vz126561 rz126561 => ?_)
            have rz126561 : 0 ≤ z126561.toInt ∧ z126561.toInt ≤ 5 := rz126561
            exact t_iret hQ X hT (⟨(by omega), hfr⟩) (Nat.le_of_ble_eq_true rfl) (Nat.le_of_ble_eq_true rfl) dX9_wallAt_52
  refine lv_iconst (v := 0) hx hb dX9_wallAt_0 (by decide) ?_
  refine lv_istore (lv' := [(5, .int 0), (0, .ref p0), (1, .ref p1), (2, .int p2), (3, .int p3), (4, .int p4)]) hx hb dX9_wallAt_1 hl (by decide) rfl (fun ls hl => ?_)
  refine lv_aload_n hx hb dX9_wallAt_3 rfl (lv_at hl 1 rfl) ?_
  refine t_get (C := RX9) (T := TX9) (N := 6) X hT m0 g0 rfl rfl 0 (by decide) qw_93 inlX9 rfl dX9_wallAt_4 (fun v126562 hv126562 ov126562 => ?_)
  obtain ⟨b126563, rfl, mb126563, gb126563⟩ := okV_r ov126562
  have gb126563 : tag b126563 = 11 := tg_of gb126563
  refine lv_aload_n hx hb dX9_wallAt_7 rfl (lv_at hl 2 rfl) ?_
  refine t_get (C := RX1) (T := TX1) (N := 20) X hT m1 g1 rfl rfl 16 (by decide) qw_1338 inlX1 rfl dX9_wallAt_8 (fun v126564 hv126564 ov126564 => ?_)
  obtain ⟨z126565, rfl, rz126565⟩ := okV_i ov126564
  refine t_cSv (n := 2) (As := [.ref b126563, .int z126565]) (rest := []) X hT (kt385_X5_begin l G tag L F hT.2.2.2 b126563 z126565 mb126563 gb126563 (by omega)) qw_1339 qw_1241 qw_1242 qw_1243 ⟨by decide +kernel, by decide +kernel, by decide +kernel⟩ ⟨Nat.le_of_ble_eq_true rfl, Nat.le_of_ble_eq_true rfl⟩ hl rfl rfl (Nat.le_of_ble_eq_true rfl) dX9_wallAt_11 ⟨Nat.le_of_ble_eq_true rfl, Nat.le_of_ble_eq_true rfl⟩ (fun F H locs hT hz126566 => ?_)
  have yz126566 := hz126566
  have hv126562 := (yz126566.1 _ 0 ).trans hv126562
  have hv126564 := (yz126566.1 _ 16 ).trans hv126564
  have hfr : (∀ b j : Nat, fld F b j = fld Fo b j) ∧ EF tag F Fo := ⟨fun b j  => (yz126566.1 b j ).trans (hfr.1 b j ), fun b j hb => (yz126566.2 b j hb).trans (hfr.2 b j hb)⟩
  refine lv_iconst (v := 0) hx hb dX9_wallAt_14 (by decide) ?_
  refine lv_istore (lv' := [(6, .int 0), (5, .int 0), (0, .ref p0), (1, .ref p1), (2, .int p2), (3, .int p3), (4, .int p4)]) hx hb dX9_wallAt_15 hl (by decide) rfl (fun ls hl => ?_)
  have kk126567 : (0 : Int32).toInt = 0 := by decide
  have kk126568 : (0 : Int32).toInt = 0 := by decide
  exact K17 721 0 0 z126565 _ _ _ _ (by omega) (by decide) (by omega) hT hfr hv126564 (lv_sub hl [2, 3, 4, 5, 6, 1, 0] rfl)
