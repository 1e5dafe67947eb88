set_option maxHeartbeats 4000000 in
set_option maxRecDepth 100000 in
theorem km253_X13_take (l : Launch) (G : KG) (tag : Nat → Nat) (L : List Nat) (Fo : Nat → va_E) (ho : okT G ttC tag L Fo) (p0 : Nat) (p1 : Int32) (m0 : p0 ∈ L) (g0 : tag p0 = 46) (pf0 : fld Fo p0 3 = .null) : TMi l yX13_take cX13_take 4 (some .int) { frames := 2, cells := 0, slots := 0, locals := 44 } G ttC tag L Fo [.ref p0, .int p1] (fun r F1 => ((-2147483648) ≤ r.toInt ∧ r.toInt ≤ 2147483647) ∧ ((∀ b j : Nat, (tag b ≠ 46 ∨ j ≠ 0) → (tag b ≠ 46 ∨ j ≠ 1) → (tag b ≠ 46 ∨ j ≠ 2) → (tag b ≠ 46 ∨ j ≠ 20) → fld F1 b j = fld Fo b j) ∧ (∀ b j : Nat, tag b ≠ 37 → tag b ≠ 38 → elm F1 b j = elm Fo b j))) := by
  refine t_bodyi (y := yX13_take) (cd := cX13_take) (mL := 4) (rt := (some .int)) (rm := { frames := 2, cells := 0, slots := 0, locals := 44 }) (av := [.ref p0, .int p1]) (by decide) (Nat.le_of_ble_eq_true rfl) ho ?_
  intro p e s m args below meth c ls A Q hQ X hT hl
  have hx := X.1.1
  have hb := X.1.2.1
  have hl : lv_has ls 4 [(0, .ref p0), (1, .int p1)] := hl
  have rp1 := rg_all p1
  obtain ⟨F, hFo⟩ : ∃ F : Nat → va_E, F = Fo := ⟨_, rfl⟩
  rw [← hFo] at hT pf0
  have hfr : (∀ b j : Nat, (tag b ≠ 46 ∨ j ≠ 0) → (tag b ≠ 46 ∨ j ≠ 1) → (tag b ≠ 46 ∨ j ≠ 2) → (tag b ≠ 46 ∨ j ≠ 20) → fld F b j = fld Fo b j) ∧ (∀ b j : Nat, tag b ≠ 37 → tag b ≠ 38 → elm F b j = elm Fo b j) := by
    rw [hFo]
    exact ⟨by intros; rfl, by intros; rfl⟩
  refine lv_aload_n hx hb dX13_take_0 rfl (lv_at hl 0 rfl) ?_
  refine lv_iconst (v := 0) hx hb dX13_take_1 (by decide) ?_
  refine t_put (C := RX13) (T := TX13) (N := 37) (v := .int 0) X hT m0 g0 rfl tyX13 tyX13_ok nmX13 rfl 0 (by decide) qw_140 inlX13 rfl (by first | rfl | decide) (by first | rfl | decide) rfl (⟨_, rfl, (show (-2147483648) ≤ (0 : Int32).toInt from (by decide)), (show (0 : Int32).toInt ≤ 2147483647 from (by decide))⟩) dX13_take_2 (fun F H locs hT v78071 h1v78071 h2v78071 => ?_)
  have pf0 := (h1v78071 _ _ (Or.inr (by decide))).trans pf0
  have hfr : (∀ b j : Nat, (tag b ≠ 46 ∨ j ≠ 0) → (tag b ≠ 46 ∨ j ≠ 1) → (tag b ≠ 46 ∨ j ≠ 2) → (tag b ≠ 46 ∨ j ≠ 20) → fld F b j = fld Fo b j) ∧ (∀ b j : Nat, tag b ≠ 37 → tag b ≠ 38 → elm F b j = elm Fo b j) := ⟨fun b j n46_0 n46_1 n46_2 n46_20 => (h1v78071 b j (fr_ne g0 n46_0)).trans (hfr.1 b j n46_0 n46_1 n46_2 n46_20), fun b j a37 a38 => (h2v78071 b j).trans (hfr.2 b j a37 a38)⟩
  refine lv_aload_n hx hb dX13_take_5 rfl (lv_at hl 0 rfl) ?_
  refine lv_iload_n hx hb dX13_take_6 rfl (lv_at hl 1 rfl) ?_
  refine t_cVi (n := 1) (C := RX13) (T := TX13) (N := 37) (As := [.int p1]) (rest := []) X hT (km116_X13_isHouse l G tag L F hT.2.2.2 p0 p1 m0 g0 pf0) m0 g0 rfl rfl qw_796 qw_797 qw_798 qw_5 qw_799 ⟨rfl, by decide +kernel, by decide +kernel, by decide +kernel⟩ ⟨Nat.le_of_ble_eq_true rfl, Nat.le_of_ble_eq_true rfl⟩ hl rfl rfl (Nat.le_of_ble_eq_true rfl) dX13_take_7 ⟨Nat.le_of_ble_eq_true rfl, Nat.le_of_ble_eq_true rfl⟩ (fun z78072 F9 H locs hT hz78072 => ?_)
  obtain ⟨fz78072, hz78072⟩ := hz78072
  rw [fz78072] at hT
  refine lv_if_ne (tgt := 19) hx hb dX13_take_10 (by decide) (fun c78073 => ?_) (fun c78073 => ?_)
  · have w78074 := cv_ne (rfl : z78072.toInt = z78072.toInt) (by decide : (0 : Int32).toInt = 0) c78073
    exfalso
    omega
  · have w78075 := cv_eq (rfl : z78072.toInt = z78072.toInt) (by decide : (0 : Int32).toInt = 0) c78073
    refine lv_aload_n hx hb dX13_take_13 rfl (lv_at hl 0 rfl) ?_
    refine lv_iconst (v := 1) hx hb dX13_take_14 (by decide) ?_
    refine t_cVi (n := 1) (C := RX13) (T := TX13) (N := 37) (As := [.int 1]) (rest := []) X hT (km88_X13_refused l G tag L F hT.2.2.2 p0 1 m0 g0) m0 g0 rfl rfl qw_484 qw_485 qw_486 qw_5 qw_487 ⟨rfl, by decide +kernel, by decide +kernel, by decide +kernel⟩ ⟨Nat.le_of_ble_eq_true rfl, Nat.le_of_ble_eq_true rfl⟩ hl rfl rfl (Nat.le_of_ble_eq_true rfl) dX13_take_15 ⟨Nat.le_of_ble_eq_true rfl, Nat.le_of_ble_eq_true rfl⟩ (fun z78076 F H locs hT hz78076 => ?_)
    obtain ⟨hz78076, yz78076⟩ := hz78076
    have pf0 := (yz78076.1 _ 3 (Or.inr (by decide)) (Or.inr (by decide))).trans pf0
    have v78071 := (yz78076.1 _ 0 (Or.inr (by decide)) (Or.inr (by decide))).trans v78071
    have hfr : (∀ b j : Nat, (tag b ≠ 46 ∨ j ≠ 0) → (tag b ≠ 46 ∨ j ≠ 1) → (tag b ≠ 46 ∨ j ≠ 2) → (tag b ≠ 46 ∨ j ≠ 20) → fld F b j = fld Fo b j) ∧ (∀ b j : Nat, tag b ≠ 37 → tag b ≠ 38 → elm F b j = elm Fo b j) := ⟨fun b j n46_0 n46_1 n46_2 n46_20 => (yz78076.1 b j n46_1 n46_2).trans (hfr.1 b j n46_0 n46_1 n46_2 n46_20), fun b j a37 a38 => (yz78076.2 b j ).trans (hfr.2 b j a37 a38)⟩
    exact t_iret hQ X hT (⟨rg_all _, hfr⟩) (Nat.le_of_ble_eq_true rfl) (Nat.le_of_ble_eq_true rfl) dX13_take_18
theorem kp_X13_take (l : Launch) (G : KG) (tag : Nat → Nat) (L : List Nat) (Fo : Nat → va_E) (ho : okT G ttC tag L Fo) (p0 : Nat) (p1 : Int32) (m0 : p0 ∈ L) (g0 : tag p0 = 46) : TMi l yX13_take cX13_take 4 (some .int) { frames := 2, cells := 0, slots := 0, locals := 44 } G ttC tag L Fo [.ref p0, .int p1] (fun r F1 => ((-2147483648) ≤ r.toInt ∧ r.toInt ≤ 2147483647) ∧ ((∀ b j : Nat, (tag b ≠ 46 ∨ j ≠ 0) → (tag b ≠ 46 ∨ j ≠ 1) → (tag b ≠ 46 ∨ j ≠ 2) → (tag b ≠ 46 ∨ j ≠ 20) → fld F1 b j = fld Fo b j) ∧ (∀ b j : Nat, tag b ≠ 37 → tag b ≠ 38 → elm F1 b j = elm Fo b j))) := by
  rcases t_fldn ho m0 g0 rfl 3 rfl with h9 | ⟨b9, h9, m9, t9⟩
  · exact km253_X13_take l G tag L Fo ho p0 p1  m0 g0 h9 
  · exact km252_X13_take l G tag L Fo ho p0 p1 b9  m0 g0 m9 (tg_of t9) h9 
set_option maxHeartbeats 4000000 in
set_option maxRecDepth 100000 in
theorem km255_X13_mark (l : Launch) (G : KG) (tag : Nat → Nat) (L : List Nat) (Fo : Nat → va_E) (ho : okT G ttC tag L Fo) (p0 : Nat) (x0 : Nat) (m0 : p0 ∈ L) (g0 : tag p0 = 46) (mx0 : x0 ∈ L) (gx0 : tag x0 = 45) (pf0 : fld Fo p0 3 = .ref x0) : TMi l yX13_mark cX13_mark 2 (some .int) { frames := 1, cells := 0, slots := 0, locals := 21 } G ttC tag L Fo [.ref p0] (fun r F1 => ((-2147483648) ≤ r.toInt ∧ r.toInt ≤ 2147483647) ∧ ((∀ b j : Nat, (tag b ≠ 46 ∨ j ≠ 0) → (tag b ≠ 46 ∨ j ≠ 1) → (tag b ≠ 46 ∨ j ≠ 2) → (tag b ≠ 46 ∨ j ≠ 21) → fld F1 b j = fld Fo b j) ∧ (∀ b j : Nat, tag b ≠ 39 → elm F1 b j = elm Fo b j))) := by
  refine t_bodyi (y := yX13_mark) (cd := cX13_mark) (mL := 2) (rt := (some .int)) (rm := { frames := 1, cells := 0, slots := 0, locals := 21 }) (av := [.ref p0]) (by decide) (Nat.le_of_ble_eq_true rfl) ho ?_
  intro p e s m args below meth c ls A Q hQ X hT hl
  have hx := X.1.1
  have hb := X.1.2.1
  have hl : lv_has ls 2 [(0, .ref p0)] := hl
  obtain ⟨F, hFo⟩ : ∃ F : Nat → va_E, F = Fo := ⟨_, rfl⟩
  rw [← hFo] at hT pf0
  have hfr : (∀ b j : Nat, (tag b ≠ 46 ∨ j ≠ 0) → (tag b ≠ 46 ∨ j ≠ 1) → (tag b ≠ 46 ∨ j ≠ 2) → (tag b ≠ 46 ∨ j ≠ 21) → fld F b j = fld Fo b j) ∧ (∀ b j : Nat, tag b ≠ 39 → elm F b j = elm Fo b j) := by
    rw [hFo]
    exact ⟨by intros; rfl, by intros; rfl⟩
  have K34 : ∀ (n : Nat) (z78764 : Int32) (z78765 : Int32) (z78766 : Int32) (F : Nat → va_E) (H : Heap) (locs : List Loc) (ls : Array Slot), (212 - z78764.toInt < (n : Int)) → (0 ≤ z78764.toInt ∧ z78764.toInt ≤ 212) → (0 ≤ z78765.toInt ∧ z78765.toInt ≤ 0) → (0 ≤ z78766.toInt ∧ z78766.toInt ≤ 2) → TH G ttC A s tag L F H locs → ((∀ b j : Nat, (tag b ≠ 46 ∨ j ≠ 0) → (tag b ≠ 46 ∨ j ≠ 1) → (tag b ≠ 46 ∨ j ≠ 2) → (tag b ≠ 46 ∨ j ≠ 21) → fld F b j = fld Fo b j) ∧ (∀ b j : Nat, tag b ≠ 39 → elm F b j = elm Fo b j)) → (fld F p0 3 = .ref x0) → (fld F p0 0 = .int z78765) → (fld F p0 21 = .int z78766) → lv_has ls 2 [(0, .ref p0), (1, .int z78764)] → W p l e { frames := 1, cells := 0, slots := 0, locals := 21 } s m args below meth c H locs 0 0 Q (F0 m 34 ls []) := by
    intro n
    induction n with
    | zero =>
      intro z78764 z78765 z78766 F H locs ls hn rz78764 rz78765 rz78766 hT hfr pf0 qz78765 qz78766 hl
      exfalso
      omega
    | succ n ih34 =>
      intro z78764 z78765 z78766 F H locs ls hn rz78764 rz78765 rz78766 hT hfr pf0 qz78765 qz78766 hl
      refine lv_iload_n hx hb dX13_mark_34 rfl (lv_at hl 1 rfl) ?_
      refine lv_sipush (v := 212) hx hb dX13_mark_35 (by decide) ?_
      refine lv_icmp_ge (tgt := 68) hx hb dX13_mark_38 (by decide) (fun c78767 => ?_) (fun c78767 => ?_)
      · have w78768 := cv_le (by decide : (212 : Int32).toInt = 212) (rfl : z78764.toInt = z78764.toInt) c78767
        refine lv_aload_n hx hb dX13_mark_68 rfl (lv_at hl 0 rfl) ?_
        refine lv_dup hx hb dX13_mark_69 rfl ?_
        refine t_get (C := RX13) (T := TX13) (N := 37) X hT m0 g0 rfl rfl 21 (by decide) qw_483 inlX13 rfl dX13_mark_70 (fun v78769 hv78769 ov78769 => ?_)
        obtain rfl : v78769 = .int z78766 := hv78769.symm.trans qz78766
        refine lv_iconst (v := 1) hx hb dX13_mark_73 (by decide) ?_
        refine lv_iadd hx hb dX13_mark_74 ?_
        refine lv_topi (fun z78770 ez78770 => ?_)
        have hz78770 : z78770.toInt = z78766.toInt + 1 := ar_add ez78770 (rfl : z78766.toInt = z78766.toInt) (by decide : (1 : Int32).toInt = 1) (by omega) (by omega)
        have rz78770 : 1 ≤ z78770.toInt ∧ z78770.toInt ≤ 3 := by omega
        refine t_put (C := RX13) (T := TX13) (N := 37) (v := .int z78770) X hT m0 g0 rfl tyX13 tyX13_ok nmX13 rfl 21 (by decide) qw_483 inlX13 rfl (by first | rfl | decide) (by first | rfl | decide) rfl (⟨_, rfl, (show 0 ≤ (z78770 : Int32).toInt from (by omega)), (show (z78770 : Int32).toInt ≤ 3 from (by omega))⟩) dX13_mark_75 (fun F H locs hT v78771 h1v78771 h2v78771 => ?_)
        have qz78765 := (h1v78771 _ _ (Or.inr (by decide))).trans qz78765
        have pf0 := (h1v78771 _ _ (Or.inr (by decide))).trans pf0
        have hfr : (∀ b j : Nat, (tag b ≠ 46 ∨ j ≠ 0) → (tag b ≠ 46 ∨ j ≠ 1) → (tag b ≠ 46 ∨ j ≠ 2) → (tag b ≠ 46 ∨ j ≠ 21) → fld F b j = fld Fo b j) ∧ (∀ b j : Nat, tag b ≠ 39 → elm F b j = elm Fo b j) := ⟨fun b j n46_0 n46_1 n46_2 n46_21 => (h1v78771 b j (fr_ne g0 n46_21)).trans (hfr.1 b j n46_0 n46_1 n46_2 n46_21), fun b j a39 => (h2v78771 b j).trans (hfr.2 b j a39)⟩
        refine lv_aload_n hx hb dX13_mark_78 rfl (lv_at hl 0 rfl) ?_
        refine lv_aload_n hx hb dX13_mark_79 rfl (lv_at hl 0 rfl) ?_
        refine t_get (C := RX13) (T := TX13) (N := 37) X hT m0 g0 rfl rfl 21 (by decide) qw_483 inlX13 rfl dX13_mark_80 (fun v78772 hv78772 ov78772 => ?_)
        obtain rfl : v78772 = .int z78770 := hv78772.symm.trans v78771
        refine lv_iconst (v := 1) hx hb dX13_mark_83 (by decide) ?_
        refine lv_isub hx hb dX13_mark_84 ?_
        refine lv_topi (fun z78773 ez78773 => ?_)
        have hz78773 : z78773.toInt = z78770.toInt - 1 := ar_sub ez78773 (rfl : z78770.toInt = z78770.toInt) (by decide : (1 : Int32).toInt = 1) (by omega) (by omega)
        have rz78773 : 0 ≤ z78773.toInt ∧ z78773.toInt ≤ 2 := by omega
        refine t_cVi (n := 1) (C := RX13) (T := TX13) (N := 37) (As := [.int z78773]) (rest := []) X hT (km93_X13_good l G tag L F hT.2.2.2 p0 z78773 m0 g0) m0 g0 rfl rfl qw_687 qw_688 qw_689 qw_5 qw_690 ⟨rfl, by decide +kernel, by decide +kernel, by decide +kernel⟩ ⟨Nat.le_of_ble_eq_true rfl, Nat.le_of_ble_eq_true rfl⟩ hl rfl rfl (Nat.le_of_ble_eq_true rfl) dX13_mark_85 ⟨Nat.le_of_ble_eq_true rfl, Nat.le_of_ble_eq_true rfl⟩ (fun z78774 F H locs hT hz78774 => ?_)
        obtain ⟨hz78774, yz78774⟩ := hz78774
        have qz78765 := (yz78774.1 _ 0 (Or.inr (by decide)) (Or.inr (by decide))).trans qz78765
        have pf0 := (yz78774.1 _ 3 (Or.inr (by decide)) (Or.inr (by decide))).trans pf0
        have v78771 := (yz78774.1 _ 21 (Or.inr (by decide)) (Or.inr (by decide))).trans v78771
        have hfr : (∀ b j : Nat, (tag b ≠ 46 ∨ j ≠ 0) → (tag b ≠ 46 ∨ j ≠ 1) → (tag b ≠ 46 ∨ j ≠ 2) → (tag b ≠ 46 ∨ j ≠ 21) → fld F b j = fld Fo b j) ∧ (∀ b j : Nat, tag b ≠ 39 → elm F b j = elm Fo b j) := ⟨fun b j n46_0 n46_1 n46_2 n46_21 => (yz78774.1 b j n46_1 n46_2).trans (hfr.1 b j n46_0 n46_1 n46_2 n46_21), fun b j a39 => (yz78774.2 b j ).trans (hfr.2 b j a39)⟩
        exact t_iret hQ X hT (⟨rg_all _, hfr⟩) (Nat.le_of_ble_eq_true rfl) (Nat.le_of_ble_eq_true rfl) dX13_mark_88
      · have w78775 := cv_nle (by decide : (212 : Int32).toInt = 212) (rfl : z78764.toInt = z78764.toInt) c78767
        refine lv_aload_n hx hb dX13_mark_41 rfl (lv_at hl 0 rfl) ?_
        refine t_get (C := RX13) (T := TX13) (N := 37) X hT m0 g0 rfl rfl 19 (by decide) qw_115 inlX13 rfl dX13_mark_42 (fun v78776 hv78776 ov78776 => ?_)
        obtain ⟨b78777, rfl, mb78777, gb78777⟩ := okV_r ov78776
        have gb78777 : tag b78777 = 39 := tg_of gb78777
        refine lv_sipush (v := 212) hx hb dX13_mark_45 (by decide) ?_
        refine lv_aload_n hx hb dX13_mark_48 rfl (lv_at hl 0 rfl) ?_
        refine t_get (C := RX13) (T := TX13) (N := 37) X hT m0 g0 rfl rfl 21 (by decide) qw_483 inlX13 rfl dX13_mark_49 (fun v78778 hv78778 ov78778 => ?_)
        obtain rfl : v78778 = .int z78766 := hv78778.symm.trans qz78766
        refine lv_imul hx hb dX13_mark_52 ?_
        refine lv_topi (fun z78779 ez78779 => ?_)
        have hz78779 : z78779.toInt = 212 * z78766.toInt := ar_mul ez78779 (by decide : (212 : Int32).toInt = 212) (rfl : z78766.toInt = z78766.toInt) (by omega) (by omega)
        have rz78779 : 0 ≤ z78779.toInt ∧ z78779.toInt ≤ 424 := by omega
        refine lv_iload_n hx hb dX13_mark_53 rfl (lv_at hl 1 rfl) ?_
        refine lv_iadd hx hb dX13_mark_54 ?_
        refine lv_topi (fun z78780 ez78780 => ?_)
        have hz78780 : z78780.toInt = z78779.toInt + z78764.toInt := ar_add ez78780 (rfl : z78779.toInt = z78779.toInt) (rfl : z78764.toInt = z78764.toInt) (by omega) (by omega)
        have rz78780 : 0 ≤ z78780.toInt ∧ z78780.toInt ≤ 635 := by omega
        refine lv_aload_n hx hb dX13_mark_55 rfl (lv_at hl 0 rfl) ?_
        refine t_get (C := RX13) (T := TX13) (N := 37) X hT m0 g0 rfl rfl 16 (by decide) qw_112 inlX13 rfl dX13_mark_56 (fun v78781 hv78781 ov78781 => ?_)
        obtain ⟨b78782, rfl, mb78782, gb78782⟩ := okV_r ov78781
        have gb78782 : tag b78782 = 37 := tg_of gb78782
        refine lv_iload_n hx hb dX13_mark_59 rfl (lv_at hl 1 rfl) ?_
        refine t_ild X hT mb78782 gb78782 rfl (by omega) dX13_mark_60 (fun z78783 vz78783 rz78783 => ?_)
        have oz78783 := rz78783
        have rz78783 := rg_all z78783
        refine t_ist X hT mb78777 gb78777 rfl (by omega) (row_c1 (a := z78766.toInt) (by omega) (by omega) (by omega) oz78783) dX13_mark_61 (fun F H locs hT v78784 h1v78784 h2v78784 => ?_)
        have qz78765 := (h2v78784 _ _).trans qz78765
        have qz78766 := (h2v78784 _ _).trans qz78766
        have pf0 := (h2v78784 _ _).trans pf0
        have hv78776 := (h2v78784 _ _).trans hv78776
        have hv78781 := (h2v78784 _ _).trans hv78781
        have vz78783 := (h1v78784 _ _ (Or.inl (tne gb78782 gb78777 (by decide)))).trans vz78783
        have hfr : (∀ b j : Nat, (tag b ≠ 46 ∨ j ≠ 0) → (tag b ≠ 46 ∨ j ≠ 1) → (tag b ≠ 46 ∨ j ≠ 2) → (tag b ≠ 46 ∨ j ≠ 21) → fld F b j = fld Fo b j) ∧ (∀ b j : Nat, tag b ≠ 39 → elm F b j = elm Fo b j) := ⟨fun b j n46_0 n46_1 n46_2 n46_21 => (h2v78784 b j).trans (hfr.1 b j n46_0 n46_1 n46_2 n46_21), fun b j a39 => (h1v78784 b j (Or.inl (at_ne gb78777 a39))).trans (hfr.2 b j a39)⟩
        obtain ⟨z78785, ez78785⟩ : ∃ y : Int32, y = z78764 + 1 := ⟨_, rfl⟩
        have hz78785 : z78785.toInt = z78764.toInt + 1 := ar_add ez78785 rfl (by decide : (1 : Int32).toInt = 1) (by omega) (by omega)
        refine lv_iinc (v := z78785) (lv' := [(1, .int z78785), (0, .ref p0)]) hx hb dX13_mark_62 hl (k := 1) rfl (by rw [ez78785]; rfl) (by decide) rfl (fun ls hl => ?_)
        refine lv_goto (tgt := 34) hx hb dX13_mark_65 (by decide) ?_
        exact ih34 z78785 z78765 z78766 _ _ _ _ (by omega) (by omega) (by omega) (by omega) hT hfr pf0 qz78765 qz78766 (lv_sub hl [1, 0] rfl)
  refine lv_aload_n hx hb dX13_mark_0 rfl (lv_at hl 0 rfl) ?_
  refine lv_iconst (v := 0) hx hb dX13_mark_1 (by decide) ?_
  refine t_put (C := RX13) (T := TX13) (N := 37) (v := .int 0) X hT m0 g0 rfl tyX13 tyX13_ok nmX13 rfl 0 (by decide) qw_140 inlX13 rfl (by first | rfl | decide) (by first | rfl | decide) rfl (⟨_, rfl, (show (-2147483648) ≤ (0 : Int32).toInt from (by decide)), (show (0 : Int32).toInt ≤ 2147483647 from (by decide))⟩) dX13_mark_2 (fun F H locs hT v78786 h1v78786 h2v78786 => ?_)
  have pf0 := (h1v78786 _ _ (Or.inr (by decide))).trans pf0
  have hfr : (∀ b j : Nat, (tag b ≠ 46 ∨ j ≠ 0) → (tag b ≠ 46 ∨ j ≠ 1) → (tag b ≠ 46 ∨ j ≠ 2) → (tag b ≠ 46 ∨ j ≠ 21) → fld F b j = fld Fo b j) ∧ (∀ b j : Nat, tag b ≠ 39 → elm F b j = elm Fo b j) := ⟨fun b j n46_0 n46_1 n46_2 n46_21 => (h1v78786 b j (fr_ne g0 n46_0)).trans (hfr.1 b j n46_0 n46_1 n46_2 n46_21), fun b j a39 => (h2v78786 b j).trans (hfr.2 b j a39)⟩
  refine lv_aload_n hx hb dX13_mark_5 rfl (lv_at hl 0 rfl) ?_
  refine t_get (C := RX13) (T := TX13) (N := 37) X hT m0 g0 rfl rfl 3 (by decide) qw_481 inlX13 rfl dX13_mark_6 (fun v78787 hv78787 ov78787 => ?_)
  obtain rfl : v78787 = .ref x0 := hv78787.symm.trans pf0
  refine lv_ifnonnull (tgt := 18) hx hb dX13_mark_9 (by decide) ?_
  refine lv_aload_n hx hb dX13_mark_18 rfl (lv_at hl 0 rfl) ?_
  refine t_get (C := RX13) (T := TX13) (N := 37) X hT m0 g0 rfl rfl 21 (by decide) qw_483 inlX13 rfl dX13_mark_19 (fun v78788 hv78788 ov78788 => ?_)
  obtain ⟨z78789, rfl, rz78789⟩ := okV_i ov78788
  refine lv_iconst (v := 3) hx hb dX13_mark_22 (by decide) ?_
  refine lv_icmp_ne (tgt := 32) hx hb dX13_mark_23 (by decide) (fun c78790 => ?_) (fun c78790 => ?_)
  · have w78791 := cv_ne (rfl : z78789.toInt = z78789.toInt) (by decide : (3 : Int32).toInt = 3) c78790
    refine lv_iconst (v := 0) hx hb dX13_mark_32 (by decide) ?_
    refine lv_istore_n (lv' := [(1, .int 0), (0, .ref p0)]) hx hb dX13_mark_33 rfl hl (by decide) rfl (fun ls hl => ?_)
    have k78792 : (0 : Int32).toInt = 0 := by decide
    have k78793 : (0 : Int32).toInt = 0 := by decide
    exact K34 213 0 0 z78789 _ _ _ _ (by omega) (by decide) (by decide) (by omega) hT hfr pf0 v78786 hv78788 (lv_sub hl [1, 0] rfl)
  · have w78794 := cv_eq (rfl : z78789.toInt = z78789.toInt) (by decide : (3 : Int32).toInt = 3) c78790
    refine lv_aload_n hx hb dX13_mark_26 rfl (lv_at hl 0 rfl) ?_
    refine lv_iconst (v := 3) hx hb dX13_mark_27 (by decide) ?_
    refine t_cVi (n := 1) (C := RX13) (T := TX13) (N := 37) (As := [.int 3]) (rest := []) X hT (km88_X13_refused l G tag L F hT.2.2.2 p0 3 m0 g0) m0 g0 rfl rfl qw_484 qw_485 qw_486 qw_5 qw_487 ⟨rfl, by decide +kernel, by decide +kernel, by decide +kernel⟩ ⟨Nat.le_of_ble_eq_true rfl, Nat.le_of_ble_eq_true rfl⟩ hl rfl rfl (Nat.le_of_ble_eq_true rfl) dX13_mark_28 ⟨Nat.le_of_ble_eq_true rfl, Nat.le_of_ble_eq_true rfl⟩ (fun z78795 F H locs hT hz78795 => ?_)
    obtain ⟨hz78795, yz78795⟩ := hz78795
    have pf0 := (yz78795.1 _ 3 (Or.inr (by decide)) (Or.inr (by decide))).trans pf0
    have v78786 := (yz78795.1 _ 0 (Or.inr (by decide)) (Or.inr (by decide))).trans v78786
    have hv78788 := (yz78795.1 _ 21 (Or.inr (by decide)) (Or.inr (by decide))).trans hv78788
    have hfr : (∀ b j : Nat, (tag b ≠ 46 ∨ j ≠ 0) → (tag b ≠ 46 ∨ j ≠ 1) → (tag b ≠ 46 ∨ j ≠ 2) → (tag b ≠ 46 ∨ j ≠ 21) → fld F b j = fld Fo b j) ∧ (∀ b j : Nat, tag b ≠ 39 → elm F b j = elm Fo b j) := ⟨fun b j n46_0 n46_1 n46_2 n46_21 => (yz78795.1 b j n46_1 n46_2).trans (hfr.1 b j n46_0 n46_1 n46_2 n46_21), fun b j a39 => (yz78795.2 b j ).trans (hfr.2 b j a39)⟩
    exact t_iret hQ X hT (⟨rg_all _, hfr⟩) (Nat.le_of_ble_eq_true rfl) (Nat.le_of_ble_eq_true rfl) dX13_mark_31
set_option maxHeartbeats 4000000 in
set_option maxRecDepth 100000 in
theorem km256_X13_mark (l : Launch) (G : KG) (tag : Nat → Nat) (L : List Nat) (Fo : Nat → va_E) (ho : okT G ttC tag L Fo) (p0 : Nat) (m0 : p0 ∈ L) (g0 : tag p0 = 46) (pf0 : fld Fo p0 3 = .null) : TMi l yX13_mark cX13_mark 2 (some .int) { frames := 1, cells := 0, slots := 0, locals := 21 } G ttC tag L Fo [.ref p0] (fun r F1 => ((-2147483648) ≤ r.toInt ∧ r.toInt ≤ 2147483647) ∧ ((∀ b j : Nat, (tag b ≠ 46 ∨ j ≠ 0) → (tag b ≠ 46 ∨ j ≠ 1) → (tag b ≠ 46 ∨ j ≠ 2) → (tag b ≠ 46 ∨ j ≠ 21) → fld F1 b j = fld Fo b j) ∧ (∀ b j : Nat, tag b ≠ 39 → elm F1 b j = elm Fo b j))) := by
  refine t_bodyi (y := yX13_mark) (cd := cX13_mark) (mL := 2) (rt := (some .int)) (rm := { frames := 1, cells := 0, slots := 0, locals := 21 }) (av := [.ref p0]) (by decide) (Nat.le_of_ble_eq_true rfl) ho ?_
  intro p e s m args below meth c ls A Q hQ X hT hl
  have hx := X.1.1
  have hb := X.1.2.1
  have hl : lv_has ls 2 [(0, .ref p0)] := hl
  obtain ⟨F, hFo⟩ : ∃ F : Nat → va_E, F = Fo := ⟨_, rfl⟩
  rw [← hFo] at hT pf0
  have hfr : (∀ b j : Nat, (tag b ≠ 46 ∨ j ≠ 0) → (tag b ≠ 46 ∨ j ≠ 1) → (tag b ≠ 46 ∨ j ≠ 2) → (tag b ≠ 46 ∨ j ≠ 21) → fld F b j = fld Fo b j) ∧ (∀ b j : Nat, tag b ≠ 39 → elm F b j = elm Fo b j) := by
    rw [hFo]
    exact ⟨by intros; rfl, by intros; rfl⟩
  refine lv_aload_n hx hb dX13_mark_0 rfl (lv_at hl 0 rfl) ?_
  refine lv_iconst (v := 0) hx hb dX13_mark_1 (by decide) ?_
  refine t_put (C := RX13) (T := TX13) (N := 37) (v := .int 0) X hT m0 g0 rfl tyX13 tyX13_ok nmX13 rfl 0 (by decide) qw_140 inlX13 rfl (by first | rfl | decide) (by first | rfl | decide) rfl (⟨_, rfl, (show (-2147483648) ≤ (0 : Int32).toInt from (by decide)), (show (0 : Int32).toInt ≤ 2147483647 from (by decide))⟩) dX13_mark_2 (fun F H locs hT v78829 h1v78829 h2v78829 => ?_)
  have pf0 := (h1v78829 _ _ (Or.inr (by decide))).trans pf0
  have hfr : (∀ b j : Nat, (tag b ≠ 46 ∨ j ≠ 0) → (tag b ≠ 46 ∨ j ≠ 1) → (tag b ≠ 46 ∨ j ≠ 2) → (tag b ≠ 46 ∨ j ≠ 21) → fld F b j = fld Fo b j) ∧ (∀ b j : Nat, tag b ≠ 39 → elm F b j = elm Fo b j) := ⟨fun b j n46_0 n46_1 n46_2 n46_21 => (h1v78829 b j (fr_ne g0 n46_0)).trans (hfr.1 b j n46_0 n46_1 n46_2 n46_21), fun b j a39 => (h2v78829 b j).trans (hfr.2 b j a39)⟩
  refine lv_aload_n hx hb dX13_mark_5 rfl (lv_at hl 0 rfl) ?_
  refine t_get (C := RX13) (T := TX13) (N := 37) X hT m0 g0 rfl rfl 3 (by decide) qw_481 inlX13 rfl dX13_mark_6 (fun v78830 hv78830 ov78830 => ?_)
  obtain rfl : v78830 = .null := hv78830.symm.trans pf0
  refine lv_ifnonnullN hx hb dX13_mark_9 ?_
  refine lv_aload_n hx hb dX13_mark_12 rfl (lv_at hl 0 rfl) ?_
  refine lv_iconst (v := 1) hx hb dX13_mark_13 (by decide) ?_
  refine t_cVi (n := 1) (C := RX13) (T := TX13) (N := 37) (As := [.int 1]) (rest := []) X hT (km88_X13_refused l G tag L F hT.2.2.2 p0 1 m0 g0) m0 g0 rfl rfl qw_484 qw_485 qw_486 qw_5 qw_487 ⟨rfl, by decide +kernel, by decide +kernel, by decide +kernel⟩ ⟨Nat.le_of_ble_eq_true rfl, Nat.le_of_ble_eq_true rfl⟩ hl rfl rfl (Nat.le_of_ble_eq_true rfl) dX13_mark_14 ⟨Nat.le_of_ble_eq_true rfl, Nat.le_of_ble_eq_true rfl⟩ (fun z78831 F H locs hT hz78831 => ?_)
  obtain ⟨hz78831, yz78831⟩ := hz78831
  have pf0 := (yz78831.1 _ 3 (Or.inr (by decide)) (Or.inr (by decide))).trans pf0
  have v78829 := (yz78831.1 _ 0 (Or.inr (by decide)) (Or.inr (by decide))).trans v78829
  have hfr : (∀ b j : Nat, (tag b ≠ 46 ∨ j ≠ 0) → (tag b ≠ 46 ∨ j ≠ 1) → (tag b ≠ 46 ∨ j ≠ 2) → (tag b ≠ 46 ∨ j ≠ 21) → fld F b j = fld Fo b j) ∧ (∀ b j : Nat, tag b ≠ 39 → elm F b j = elm Fo b j) := ⟨fun b j n46_0 n46_1 n46_2 n46_21 => (yz78831.1 b j n46_1 n46_2).trans (hfr.1 b j n46_0 n46_1 n46_2 n46_21), fun b j a39 => (yz78831.2 b j ).trans (hfr.2 b j a39)⟩
  exact t_iret hQ X hT (⟨rg_all _, hfr⟩) (Nat.le_of_ble_eq_true rfl) (Nat.le_of_ble_eq_true rfl) dX13_mark_17
theorem kp_X13_mark (l : Launch) (G : KG) (tag : Nat → Nat) (L : List Nat) (Fo : Nat → va_E) (ho : okT G ttC tag L Fo) (p0 : Nat) (m0 : p0 ∈ L) (g0 : tag p0 = 46) : TMi l yX13_mark cX13_mark 2 (some .int) { frames := 1, cells := 0, slots := 0, locals := 21 } G ttC tag L Fo [.ref p0] (fun r F1 => ((-2147483648) ≤ r.toInt ∧ r.toInt ≤ 2147483647) ∧ ((∀ b j : Nat, (tag b ≠ 46 ∨ j ≠ 0) → (tag b ≠ 46 ∨ j ≠ 1) → (tag b ≠ 46 ∨ j ≠ 2) → (tag b ≠ 46 ∨ j ≠ 21) → fld F1 b j = fld Fo b j) ∧ (∀ b j : Nat, tag b ≠ 39 → elm F1 b j = elm Fo b j))) := by
  rcases t_fldn ho m0 g0 rfl 3 rfl with h9 | ⟨b9, h9, m9, t9⟩
  · exact km256_X13_mark l G tag L Fo ho p0  m0 g0 h9 
  · exact km255_X13_mark l G tag L Fo ho p0 b9  m0 g0 m9 (tg_of t9) h9 
set_option maxHeartbeats 4000000 in
set_option maxRecDepth 100000 in
theorem km258_X13_stone (l : Launch) (G : KG) (tag : Nat → Nat) (L : List Nat) (Fo : Nat → va_E) (ho : okT G ttC tag L Fo) (p0 : Nat) (p1 : Int32) (p2 : Int32) (x0 : Nat) (m0 : p0 ∈ L) (g0 : tag p0 = 46) (mx0 : x0 ∈ L) (gx0 : tag x0 = 45) (pf0 : fld Fo p0 3 = .ref x0) : TMi l yX13_stone cX13_stone 3 (some .int) { frames := 1, cells := 0, slots := 0, locals := 22 } G ttC tag L Fo [.ref p0, .int p1, .int p2] (fun r F1 => ((-2147483648) ≤ r.toInt ∧ r.toInt ≤ 2147483647) ∧ ((∀ b j : Nat, (tag b ≠ 46 ∨ j ≠ 0) → (tag b ≠ 46 ∨ j ≠ 1) → (tag b ≠ 46 ∨ j ≠ 2) → fld F1 b j = fld Fo b j) ∧ (∀ b j : Nat, elm F1 b j = elm Fo b j))) := by
  refine t_bodyi (y := yX13_stone) (cd := cX13_stone) (mL := 3) (rt := (some .int)) (rm := { frames := 1, cells := 0, slots := 0, locals := 22 }) (av := [.ref p0, .int p1, .int p2]) (by decide) (Nat.le_of_ble_eq_true rfl) ho ?_
  intro p e s m args below meth c ls A Q hQ X hT hl
  have hx := X.1.1
  have hb := X.1.2.1
  have hl : lv_has ls 3 [(0, .ref p0), (1, .int p1), (2, .int p2)] := hl
  have rp1 := rg_all p1
  have rp2 := rg_all p2
  obtain ⟨F, hFo⟩ : ∃ F : Nat → va_E, F = Fo := ⟨_, rfl⟩
  rw [← hFo] at hT pf0
  have hfr : (∀ b j : Nat, (tag b ≠ 46 ∨ j ≠ 0) → (tag b ≠ 46 ∨ j ≠ 1) → (tag b ≠ 46 ∨ j ≠ 2) → fld F b j = fld Fo b j) ∧ (∀ b j : Nat, elm F b j = elm Fo b j) := by
    rw [hFo]
    exact ⟨by intros; rfl, by intros; rfl⟩
  refine lv_aload_n hx hb dX13_stone_0 rfl (lv_at hl 0 rfl) ?_
  refine lv_iconst (v := 0) hx hb dX13_stone_1 (by decide) ?_
  refine t_put (C := RX13) (T := TX13) (N := 37) (v := .int 0) X hT m0 g0 rfl tyX13 tyX13_ok nmX13 rfl 0 (by decide) qw_140 inlX13 rfl (by first | rfl | decide) (by first | rfl | decide) rfl (⟨_, rfl, (show (-2147483648) ≤ (0 : Int32).toInt from (by decide)), (show (0 : Int32).toInt ≤ 2147483647 from (by decide))⟩) dX13_stone_2 (fun F H locs hT v79404 h1v79404 h2v79404 => ?_)
  have pf0 := (h1v79404 _ _ (Or.inr (by decide))).trans pf0
  have hfr : (∀ b j : Nat, (tag b ≠ 46 ∨ j ≠ 0) → (tag b ≠ 46 ∨ j ≠ 1) → (tag b ≠ 46 ∨ j ≠ 2) → fld F b j = fld Fo b j) ∧ (∀ b j : Nat, elm F b j = elm Fo b j) := ⟨fun b j n46_0 n46_1 n46_2 => (h1v79404 b j (fr_ne g0 n46_0)).trans (hfr.1 b j n46_0 n46_1 n46_2), fun b j  => (h2v79404 b j).trans (hfr.2 b j )⟩
  refine lv_aload_n hx hb dX13_stone_5 rfl (lv_at hl 0 rfl) ?_
  refine lv_iload_n hx hb dX13_stone_6 rfl (lv_at hl 1 rfl) ?_
  refine t_cVi (n := 1) (C := RX13) (T := TX13) (N := 37) (As := [.int p1]) (rest := []) X hT (km150_X13_isStone l G tag L F hT.2.2.2 p0 p1 x0 m0 g0 mx0 gx0 pf0) m0 g0 rfl rfl qw_967 qw_968 qw_969 qw_5 qw_970 ⟨rfl, by decide +kernel, by decide +kernel, by decide +kernel⟩ ⟨Nat.le_of_ble_eq_true rfl, Nat.le_of_ble_eq_true rfl⟩ hl rfl rfl (Nat.le_of_ble_eq_true rfl) dX13_stone_7 ⟨Nat.le_of_ble_eq_true rfl, Nat.le_of_ble_eq_true rfl⟩ (fun z79405 F9 H locs hT hz79405 => ?_)
  obtain ⟨fz79405, hz79405⟩ := hz79405
  rw [fz79405] at hT
  obtain ⟨hz79405, iz79405⟩ := hz79405
  refine lv_if_eq (tgt := 22) hx hb dX13_stone_10 (by decide) (fun c79406 => ?_) (fun c79406 => ?_)
  · have w79407 := cv_eq (rfl : z79405.toInt = z79405.toInt) (by decide : (0 : Int32).toInt = 0) c79406
    refine lv_aload_n hx hb dX13_stone_22 rfl (lv_at hl 0 rfl) ?_
    refine lv_iconst (v := 1) hx hb dX13_stone_23 (by decide) ?_
    refine t_cVi (n := 1) (C := RX13) (T := TX13) (N := 37) (As := [.int 1]) (rest := []) X hT (km88_X13_refused l G tag L F hT.2.2.2 p0 1 m0 g0) m0 g0 rfl rfl qw_484 qw_485 qw_486 qw_5 qw_487 ⟨rfl, by decide +kernel, by decide +kernel, by decide +kernel⟩ ⟨Nat.le_of_ble_eq_true rfl, Nat.le_of_ble_eq_true rfl⟩ hl rfl rfl (Nat.le_of_ble_eq_true rfl) dX13_stone_24 ⟨Nat.le_of_ble_eq_true rfl, Nat.le_of_ble_eq_true rfl⟩ (fun z79408 F H locs hT hz79408 => ?_)
    obtain ⟨hz79408, yz79408⟩ := hz79408
    have pf0 := (yz79408.1 _ 3 (Or.inr (by decide)) (Or.inr (by decide))).trans pf0
    have v79404 := (yz79408.1 _ 0 (Or.inr (by decide)) (Or.inr (by decide))).trans v79404
    have hfr : (∀ b j : Nat, (tag b ≠ 46 ∨ j ≠ 0) → (tag b ≠ 46 ∨ j ≠ 1) → (tag b ≠ 46 ∨ j ≠ 2) → fld F b j = fld Fo b j) ∧ (∀ b j : Nat, elm F b j = elm Fo b j) := ⟨fun b j n46_0 n46_1 n46_2 => (yz79408.1 b j n46_1 n46_2).trans (hfr.1 b j n46_0 n46_1 n46_2), fun b j  => (yz79408.2 b j ).trans (hfr.2 b j )⟩
    exact t_iret hQ X hT (⟨rg_all _, hfr⟩) (Nat.le_of_ble_eq_true rfl) (Nat.le_of_ble_eq_true rfl) dX13_stone_27
  · have w79409 := cv_ne (rfl : z79405.toInt = z79405.toInt) (by decide : (0 : Int32).toInt = 0) c79406
    have w79410 := (fun h => (iz79405 h)) (by omega)
    refine lv_iload_n hx hb dX13_stone_13 rfl (lv_at hl 2 rfl) ?_
    refine lv_iconst (v := 0) hx hb dX13_stone_14 (by decide) ?_
    refine lv_iconst (v := 4) hx hb dX13_stone_15 (by decide) ?_
    refine t_cSi (n := 3) (As := [.int p2, .int 0, .int 4]) (rest := []) X hT (km19_X13_within l G tag L F hT.2.2.2 p2 0 4 ) qw_568 qw_569 qw_5 qw_570 ⟨by decide +kernel, by decide +kernel, by decide +kernel⟩ ⟨Nat.le_of_ble_eq_true rfl, Nat.le_of_ble_eq_true rfl⟩ hl rfl rfl (Nat.le_of_ble_eq_true rfl) dX13_stone_16 ⟨Nat.le_of_ble_eq_true rfl, Nat.le_of_ble_eq_true rfl⟩ (fun z79411 F9 H locs hT hz79411 => ?_)
    obtain ⟨fz79411, hz79411, xz79411_0⟩ := hz79411
    rw [fz79411] at hT
    have k79412 : (0 : Int32).toInt = 0 := by decide
    have k79413 : (4 : Int32).toInt = 4 := by decide
    refine lv_if_ne (tgt := 28) hx hb dX13_stone_19 (by decide) (fun c79414 => ?_) (fun c79414 => ?_)
    · have w79415 := cv_ne (rfl : z79411.toInt = z79411.toInt) (by decide : (0 : Int32).toInt = 0) c79414
      have w79416 := xz79411_0 (by omega)
      refine lv_iload_n hx hb dX13_stone_28 rfl (lv_at hl 2 rfl) ?_
      by_cases c79417 : p2 = 0
      · have w79418 := cv_eq (rfl : p2.toInt = p2.toInt) (by decide : (0 : Int32).toInt = 0) c79417
        refine lv_tableIn (off := 31) (tgt := 60) hx hb dX13_stone_29 (by rw [c79417]; decide) (by rw [c79417]; decide) (by rw [c79417]; decide) (by decide) ?_
        refine lv_aload_n hx hb dX13_stone_60 rfl (lv_at hl 0 rfl) ?_
        refine lv_aload_n hx hb dX13_stone_61 rfl (lv_at hl 0 rfl) ?_
        refine t_get (C := RX13) (T := TX13) (N := 37) X hT m0 g0 rfl rfl 3 (by decide) qw_481 inlX13 rfl dX13_stone_62 (fun v79419 hv79419 ov79419 => ?_)
        obtain rfl : v79419 = .ref x0 := hv79419.symm.trans pf0
        refine t_getN (C := RX12) (T := TX12) (N := 31) X hT mx0 gx0 rfl rfl 16 (by decide) (List.mem_of_getElem? (i := 20) rfl) inlX12 rfl dX13_stone_65 (fun v79420 hv79420 ov79420 => ?_)
        obtain ⟨b79421, rfl, mb79421, gb79421⟩ := okV_r ov79420
        have gb79421 : tag b79421 = 29 := tg_of gb79421
        refine lv_iload_n hx hb dX13_stone_68 rfl (lv_at hl 1 rfl) ?_
        refine t_ild X hT mb79421 gb79421 rfl (by omega) dX13_stone_69 (fun z79422 vz79422 rz79422 => ?_)
        have rz79422 : (-2147483648) ≤ z79422.toInt ∧ z79422.toInt ≤ 2147483647 := rz79422
        refine t_cVi (n := 1) (C := RX13) (T := TX13) (N := 37) (As := [.int z79422]) (rest := []) X hT (km93_X13_good l G tag L F hT.2.2.2 p0 z79422 m0 g0) m0 g0 rfl rfl qw_687 qw_688 qw_689 qw_5 qw_690 ⟨rfl, by decide +kernel, by decide +kernel, by decide +kernel⟩ ⟨Nat.le_of_ble_eq_true rfl, Nat.le_of_ble_eq_true rfl⟩ hl rfl rfl (Nat.le_of_ble_eq_true rfl) dX13_stone_70 ⟨Nat.le_of_ble_eq_true rfl, Nat.le_of_ble_eq_true rfl⟩ (fun z79423 F H locs hT hz79423 => ?_)
        obtain ⟨hz79423, yz79423⟩ := hz79423
        have pf0 := (yz79423.1 _ 3 (Or.inr (by decide)) (Or.inr (by decide))).trans pf0
        have v79404 := (yz79423.1 _ 0 (Or.inr (by decide)) (Or.inr (by decide))).trans v79404
        have hv79420 := (yz79423.1 _ 16 (Or.inr (by decide)) (Or.inr (by decide))).trans hv79420
        have vz79422 := (yz79423.2 _ _ ).trans vz79422
        have hfr : (∀ b j : Nat, (tag b ≠ 46 ∨ j ≠ 0) → (tag b ≠ 46 ∨ j ≠ 1) → (tag b ≠ 46 ∨ j ≠ 2) → fld F b j = fld Fo b j) ∧ (∀ b j : Nat, elm F b j = elm Fo b j) := ⟨fun b j n46_0 n46_1 n46_2 => (yz79423.1 b j n46_1 n46_2).trans (hfr.1 b j n46_0 n46_1 n46_2), fun b j  => (yz79423.2 b j ).trans (hfr.2 b j )⟩
        exact t_iret hQ X hT (⟨rg_all _, hfr⟩) (Nat.le_of_ble_eq_true rfl) (Nat.le_of_ble_eq_true rfl) dX13_stone_73
      have w79424 := cv_ne (rfl : p2.toInt = p2.toInt) (by decide : (0 : Int32).toInt = 0) c79417
      by_cases c79425 : p2 = 1
      · have w79426 := cv_eq (rfl : p2.toInt = p2.toInt) (by decide : (1 : Int32).toInt = 1) c79425
        refine lv_tableIn (off := 45) (tgt := 74) hx hb dX13_stone_29 (by rw [c79425]; decide) (by rw [c79425]; decide) (by rw [c79425]; decide) (by decide) ?_
        refine lv_aload_n hx hb dX13_stone_74 rfl (lv_at hl 0 rfl) ?_
        refine lv_aload_n hx hb dX13_stone_75 rfl (lv_at hl 0 rfl) ?_
        refine t_get (C := RX13) (T := TX13) (N := 37) X hT m0 g0 rfl rfl 3 (by decide) qw_481 inlX13 rfl dX13_stone_76 (fun v79427 hv79427 ov79427 => ?_)
        obtain rfl : v79427 = .ref x0 := hv79427.symm.trans pf0
        refine t_getN (C := RX12) (T := TX12) (N := 31) X hT mx0 gx0 rfl rfl 17 (by decide) (List.mem_of_getElem? (i := 21) rfl) inlX12 rfl dX13_stone_79 (fun v79428 hv79428 ov79428 => ?_)
        obtain ⟨b79429, rfl, mb79429, gb79429⟩ := okV_r ov79428
        have gb79429 : tag b79429 = 29 := tg_of gb79429
        refine lv_iload_n hx hb dX13_stone_82 rfl (lv_at hl 1 rfl) ?_
        refine t_ild X hT mb79429 gb79429 rfl (by omega) dX13_stone_83 (fun z79430 vz79430 rz79430 => ?_)
        have rz79430 : (-2147483648) ≤ z79430.toInt ∧ z79430.toInt ≤ 2147483647 := rz79430
        refine t_cVi (n := 1) (C := RX13) (T := TX13) (N := 37) (As := [.int z79430]) (rest := []) X hT (km93_X13_good l G tag L F hT.2.2.2 p0 z79430 m0 g0) m0 g0 rfl rfl qw_687 qw_688 qw_689 qw_5 qw_690 ⟨rfl, by decide +kernel, by decide +kernel, by decide +kernel⟩ ⟨Nat.le_of_ble_eq_true rfl, Nat.le_of_ble_eq_true rfl⟩ hl rfl rfl (Nat.le_of_ble_eq_true rfl) dX13_stone_84 ⟨Nat.le_of_ble_eq_true rfl, Nat.le_of_ble_eq_true rfl⟩ (fun z79431 F H locs hT hz79431 => ?_)
        obtain ⟨hz79431, yz79431⟩ := hz79431
        have pf0 := (yz79431.1 _ 3 (Or.inr (by decide)) (Or.inr (by decide))).trans pf0
        have v79404 := (yz79431.1 _ 0 (Or.inr (by decide)) (Or.inr (by decide))).trans v79404
        have hv79428 := (yz79431.1 _ 17 (Or.inr (by decide)) (Or.inr (by decide))).trans hv79428
        have vz79430 := (yz79431.2 _ _ ).trans vz79430
        have hfr : (∀ b j : Nat, (tag b ≠ 46 ∨ j ≠ 0) → (tag b ≠ 46 ∨ j ≠ 1) → (tag b ≠ 46 ∨ j ≠ 2) → fld F b j = fld Fo b j) ∧ (∀ b j : Nat, elm F b j = elm Fo b j) := ⟨fun b j n46_0 n46_1 n46_2 => (yz79431.1 b j n46_1 n46_2).trans (hfr.1 b j n46_0 n46_1 n46_2), fun b j  => (yz79431.2 b j ).trans (hfr.2 b j )⟩
        exact t_iret hQ X hT (⟨rg_all _, hfr⟩) (Nat.le_of_ble_eq_true rfl) (Nat.le_of_ble_eq_true rfl) dX13_stone_87
      have w79432 := cv_ne (rfl : p2.toInt = p2.toInt) (by decide : (1 : Int32).toInt = 1) c79425
      by_cases c79433 : p2 = 2
      · have w79434 := cv_eq (rfl : p2.toInt = p2.toInt) (by decide : (2 : Int32).toInt = 2) c79433
        refine lv_tableIn (off := 59) (tgt := 88) hx hb dX13_stone_29 (by rw [c79433]; decide) (by rw [c79433]; decide) (by rw [c79433]; decide) (by decide) ?_
        refine lv_aload_n hx hb dX13_stone_88 rfl (lv_at hl 0 rfl) ?_
        refine lv_aload_n hx hb dX13_stone_89 rfl (lv_at hl 0 rfl) ?_
        refine t_get (C := RX13) (T := TX13) (N := 37) X hT m0 g0 rfl rfl 3 (by decide) qw_481 inlX13 rfl dX13_stone_90 (fun v79435 hv79435 ov79435 => ?_)
        obtain rfl : v79435 = .ref x0 := hv79435.symm.trans pf0
        refine t_getN (C := RX12) (T := TX12) (N := 31) X hT mx0 gx0 rfl rfl 18 (by decide) (List.mem_of_getElem? (i := 22) rfl) inlX12 rfl dX13_stone_93 (fun v79436 hv79436 ov79436 => ?_)
        obtain ⟨b79437, rfl, mb79437, gb79437⟩ := okV_r ov79436
        have gb79437 : tag b79437 = 29 := tg_of gb79437
        refine lv_iload_n hx hb dX13_stone_96 rfl (lv_at hl 1 rfl) ?_
        refine t_ild X hT mb79437 gb79437 rfl (by omega) dX13_stone_97 (fun z79438 vz79438 rz79438 => ?_)
        have rz79438 : (-2147483648) ≤ z79438.toInt ∧ z79438.toInt ≤ 2147483647 := rz79438
        refine t_cVi (n := 1) (C := RX13) (T := TX13) (N := 37) (As := [.int z79438]) (rest := []) X hT (km93_X13_good l G tag L F hT.2.2.2 p0 z79438 m0 g0) m0 g0 rfl rfl qw_687 qw_688 qw_689 qw_5 qw_690 ⟨rfl, by decide +kernel, by decide +kernel, by decide +kernel⟩ ⟨Nat.le_of_ble_eq_true rfl, Nat.le_of_ble_eq_true rfl⟩ hl rfl rfl (Nat.le_of_ble_eq_true rfl) dX13_stone_98 ⟨Nat.le_of_ble_eq_true rfl, Nat.le_of_ble_eq_true rfl⟩ (fun z79439 F H locs hT hz79439 => ?_)
        obtain ⟨hz79439, yz79439⟩ := hz79439
        have pf0 := (yz79439.1 _ 3 (Or.inr (by decide)) (Or.inr (by decide))).trans pf0
        have v79404 := (yz79439.1 _ 0 (Or.inr (by decide)) (Or.inr (by decide))).trans v79404
        have hv79436 := (yz79439.1 _ 18 (Or.inr (by decide)) (Or.inr (by decide))).trans hv79436
        have vz79438 := (yz79439.2 _ _ ).trans vz79438
        have hfr : (∀ b j : Nat, (tag b ≠ 46 ∨ j ≠ 0) → (tag b ≠ 46 ∨ j ≠ 1) → (tag b ≠ 46 ∨ j ≠ 2) → fld F b j = fld Fo b j) ∧ (∀ b j : Nat, elm F b j = elm Fo b j) := ⟨fun b j n46_0 n46_1 n46_2 => (yz79439.1 b j n46_1 n46_2).trans (hfr.1 b j n46_0 n46_1 n46_2), fun b j  => (yz79439.2 b j ).trans (hfr.2 b j )⟩
        exact t_iret hQ X hT (⟨rg_all _, hfr⟩) (Nat.le_of_ble_eq_true rfl) (Nat.le_of_ble_eq_true rfl) dX13_stone_101
      have w79440 := cv_ne (rfl : p2.toInt = p2.toInt) (by decide : (2 : Int32).toInt = 2) c79433
      by_cases c79441 : p2 = 3
      · have w79442 := cv_eq (rfl : p2.toInt = p2.toInt) (by decide : (3 : Int32).toInt = 3) c79441
        refine lv_tableIn (off := 73) (tgt := 102) hx hb dX13_stone_29 (by rw [c79441]; decide) (by rw [c79441]; decide) (by rw [c79441]; decide) (by decide) ?_
        refine lv_aload_n hx hb dX13_stone_102 rfl (lv_at hl 0 rfl) ?_
        refine lv_aload_n hx hb dX13_stone_103 rfl (lv_at hl 0 rfl) ?_
        refine t_get (C := RX13) (T := TX13) (N := 37) X hT m0 g0 rfl rfl 3 (by decide) qw_481 inlX13 rfl dX13_stone_104 (fun v79443 hv79443 ov79443 => ?_)
        obtain rfl : v79443 = .ref x0 := hv79443.symm.trans pf0
        refine t_getN (C := RX12) (T := TX12) (N := 31) X hT mx0 gx0 rfl rfl 19 (by decide) (List.mem_of_getElem? (i := 23) rfl) inlX12 rfl dX13_stone_107 (fun v79444 hv79444 ov79444 => ?_)
        obtain ⟨b79445, rfl, mb79445, gb79445⟩ := okV_r ov79444
        have gb79445 : tag b79445 = 29 := tg_of gb79445
        refine lv_iload_n hx hb dX13_stone_110 rfl (lv_at hl 1 rfl) ?_
        refine t_ild X hT mb79445 gb79445 rfl (by omega) dX13_stone_111 (fun z79446 vz79446 rz79446 => ?_)
        have rz79446 : (-2147483648) ≤ z79446.toInt ∧ z79446.toInt ≤ 2147483647 := rz79446
        refine t_cVi (n := 1) (C := RX13) (T := TX13) (N := 37) (As := [.int z79446]) (rest := []) X hT (km93_X13_good l G tag L F hT.2.2.2 p0 z79446 m0 g0) m0 g0 rfl rfl qw_687 qw_688 qw_689 qw_5 qw_690 ⟨rfl, by decide +kernel, by decide +kernel, by decide +kernel⟩ ⟨Nat.le_of_ble_eq_true rfl, Nat.le_of_ble_eq_true rfl⟩ hl rfl rfl (Nat.le_of_ble_eq_true rfl) dX13_stone_112 ⟨Nat.le_of_ble_eq_true rfl, Nat.le_of_ble_eq_true rfl⟩ (fun z79447 F H locs hT hz79447 => ?_)
        obtain ⟨hz79447, yz79447⟩ := hz79447
        have pf0 := (yz79447.1 _ 3 (Or.inr (by decide)) (Or.inr (by decide))).trans pf0
        have v79404 := (yz79447.1 _ 0 (Or.inr (by decide)) (Or.inr (by decide))).trans v79404
        have hv79444 := (yz79447.1 _ 19 (Or.inr (by decide)) (Or.inr (by decide))).trans hv79444
        have vz79446 := (yz79447.2 _ _ ).trans vz79446
        have hfr : (∀ b j : Nat, (tag b ≠ 46 ∨ j ≠ 0) → (tag b ≠ 46 ∨ j ≠ 1) → (tag b ≠ 46 ∨ j ≠ 2) → fld F b j = fld Fo b j) ∧ (∀ b j : Nat, elm F b j = elm Fo b j) := ⟨fun b j n46_0 n46_1 n46_2 => (yz79447.1 b j n46_1 n46_2).trans (hfr.1 b j n46_0 n46_1 n46_2), fun b j  => (yz79447.2 b j ).trans (hfr.2 b j )⟩
        exact t_iret hQ X hT (⟨rg_all _, hfr⟩) (Nat.le_of_ble_eq_true rfl) (Nat.le_of_ble_eq_true rfl) dX13_stone_115
      have w79448 := cv_ne (rfl : p2.toInt = p2.toInt) (by decide : (3 : Int32).toInt = 3) c79441
      refine lv_tableOut (tgt := 116) hx hb dX13_stone_29 (by omega) (by decide) ?_
      refine lv_aload_n hx hb dX13_stone_116 rfl (lv_at hl 0 rfl) ?_
      refine lv_aload_n hx hb dX13_stone_117 rfl (lv_at hl 0 rfl) ?_
      refine t_get (C := RX13) (T := TX13) (N := 37) X hT m0 g0 rfl rfl 3 (by decide) qw_481 inlX13 rfl dX13_stone_118 (fun v79449 hv79449 ov79449 => ?_)
      obtain rfl : v79449 = .ref x0 := hv79449.symm.trans pf0
      refine t_getN (C := RX12) (T := TX12) (N := 31) X hT mx0 gx0 rfl rfl 20 (by decide) (List.mem_of_getElem? (i := 24) rfl) inlX12 rfl dX13_stone_121 (fun v79450 hv79450 ov79450 => ?_)
      obtain ⟨b79451, rfl, mb79451, gb79451⟩ := okV_r ov79450
      have gb79451 : tag b79451 = 29 := tg_of gb79451
      refine lv_iload_n hx hb dX13_stone_124 rfl (lv_at hl 1 rfl) ?_
      refine t_ild X hT mb79451 gb79451 rfl (by omega) dX13_stone_125 (fun z79452 vz79452 rz79452 => ?_)
      have rz79452 : (-2147483648) ≤ z79452.toInt ∧ z79452.toInt ≤ 2147483647 := rz79452
      refine t_cVi (n := 1) (C := RX13) (T := TX13) (N := 37) (As := [.int z79452]) (rest := []) X hT (km93_X13_good l G tag L F hT.2.2.2 p0 z79452 m0 g0) m0 g0 rfl rfl qw_687 qw_688 qw_689 qw_5 qw_690 ⟨rfl, by decide +kernel, by decide +kernel, by decide +kernel⟩ ⟨Nat.le_of_ble_eq_true rfl, Nat.le_of_ble_eq_true rfl⟩ hl rfl rfl (Nat.le_of_ble_eq_true rfl) dX13_stone_126 ⟨Nat.le_of_ble_eq_true rfl, Nat.le_of_ble_eq_true rfl⟩ (fun z79453 F H locs hT hz79453 => ?_)
      obtain ⟨hz79453, yz79453⟩ := hz79453
      have pf0 := (yz79453.1 _ 3 (Or.inr (by decide)) (Or.inr (by decide))).trans pf0
      have v79404 := (yz79453.1 _ 0 (Or.inr (by decide)) (Or.inr (by decide))).trans v79404
      have hv79450 := (yz79453.1 _ 20 (Or.inr (by decide)) (Or.inr (by decide))).trans hv79450
      have vz79452 := (yz79453.2 _ _ ).trans vz79452
      have hfr : (∀ b j : Nat, (tag b ≠ 46 ∨ j ≠ 0) → (tag b ≠ 46 ∨ j ≠ 1) → (tag b ≠ 46 ∨ j ≠ 2) → fld F b j = fld Fo b j) ∧ (∀ b j : Nat, elm F b j = elm Fo b j) := ⟨fun b j n46_0 n46_1 n46_2 => (yz79453.1 b j n46_1 n46_2).trans (hfr.1 b j n46_0 n46_1 n46_2), fun b j  => (yz79453.2 b j ).trans (hfr.2 b j )⟩
      exact t_iret hQ X hT (⟨rg_all _, hfr⟩) (Nat.le_of_ble_eq_true rfl) (Nat.le_of_ble_eq_true rfl) dX13_stone_129
    · have w79454 := cv_eq (rfl : z79411.toInt = z79411.toInt) (by decide : (0 : Int32).toInt = 0) c79414
      refine lv_aload_n hx hb dX13_stone_22 rfl (lv_at hl 0 rfl) ?_
      refine lv_iconst (v := 1) hx hb dX13_stone_23 (by decide) ?_
      refine t_cVi (n := 1) (C := RX13) (T := TX13) (N := 37) (As := [.int 1]) (rest := []) X hT (km88_X13_refused l G tag L F hT.2.2.2 p0 1 m0 g0) m0 g0 rfl rfl qw_484 qw_485 qw_486 qw_5 qw_487 ⟨rfl, by decide +kernel, by decide +kernel, by decide +kernel⟩ ⟨Nat.le_of_ble_eq_true rfl, Nat.le_of_ble_eq_true rfl⟩ hl rfl rfl (Nat.le_of_ble_eq_true rfl) dX13_stone_24 ⟨Nat.le_of_ble_eq_true rfl, Nat.le_of_ble_eq_true rfl⟩ (fun z79455 F H locs hT hz79455 => ?_)
      obtain ⟨hz79455, yz79455⟩ := hz79455
      have pf0 := (yz79455.1 _ 3 (Or.inr (by decide)) (Or.inr (by decide))).trans pf0
      have v79404 := (yz79455.1 _ 0 (Or.inr (by decide)) (Or.inr (by decide))).trans v79404
      have hfr : (∀ b j : Nat, (tag b ≠ 46 ∨ j ≠ 0) → (tag b ≠ 46 ∨ j ≠ 1) → (tag b ≠ 46 ∨ j ≠ 2) → fld F b j = fld Fo b j) ∧ (∀ b j : Nat, elm F b j = elm Fo b j) := ⟨fun b j n46_0 n46_1 n46_2 => (yz79455.1 b j n46_1 n46_2).trans (hfr.1 b j n46_0 n46_1 n46_2), fun b j  => (yz79455.2 b j ).trans (hfr.2 b j )⟩
      exact t_iret hQ X hT (⟨rg_all _, hfr⟩) (Nat.le_of_ble_eq_true rfl) (Nat.le_of_ble_eq_true rfl) dX13_stone_27
set_option maxHeartbeats 4000000 in
set_option maxRecDepth 100000 in
theorem km259_X13_isStone (l : Launch) (G : KG) (tag : Nat → Nat) (L : List Nat) (F : Nat → va_E) (ho : okT G ttC tag L F) (p0 : Nat) (p1 : Int32) (m0 : p0 ∈ L) (g0 : tag p0 = 46) (pf0 : fld F p0 3 = .null) : TMi l yX13_isStone cX13_isStone 2 (some .boolean) { frames := 0, cells := 0, slots := 0, locals := 0 } G ttC tag L F [.ref p0, .int p1] (fun r F1 => F1 = F ∧ (0 ≤ r.toInt ∧ r.toInt ≤ 0)) := by
  refine t_bodyi (y := yX13_isStone) (cd := cX13_isStone) (mL := 2) (rt := (some .boolean)) (rm := { frames := 0, cells := 0, slots := 0, locals := 0 }) (av := [.ref p0, .int p1]) (by decide) (Nat.le_of_ble_eq_true rfl) ho ?_
  intro p e s m args below meth c ls A Q hQ X hT hl
  have hx := X.1.1
  have hb := X.1.2.1
  have hl : lv_has ls 2 [(0, .ref p0), (1, .int p1)] := hl
  have rp1 := rg_all p1
  refine lv_aload_n hx hb dX13_isStone_0 rfl (lv_at hl 0 rfl) ?_
  refine t_get (C := RX13) (T := TX13) (N := 37) X hT m0 g0 rfl rfl 3 (by decide) qw_481 inlX13 rfl dX13_isStone_1 (fun v79468 hv79468 ov79468 => ?_)
  obtain rfl : v79468 = .null := hv79468.symm.trans pf0
  refine lv_ifnullN (tgt := 26) hx hb dX13_isStone_4 (by decide) ?_
  refine lv_iconst (v := 0) hx hb dX13_isStone_26 (by decide) ?_
  have k79469 : (0 : Int32).toInt = 0 := by decide
  exact t_zret hQ X hT (by decide) (⟨rfl, (by decide)⟩) (Nat.le_of_ble_eq_true rfl) (Nat.le_of_ble_eq_true rfl) dX13_isStone_27
set_option maxHeartbeats 4000000 in
set_option maxRecDepth 100000 in
theorem km260_X13_stone (l : Launch) (G : KG) (tag : Nat → Nat) (L : List Nat) (Fo : Nat → va_E) (ho : okT G ttC tag L Fo) (p0 : Nat) (p1 : Int32) (p2 : Int32) (m0 : p0 ∈ L) (g0 : tag p0 = 46) (pf0 : fld Fo p0 3 = .null) : TMi l yX13_stone cX13_stone 3 (some .int) { frames := 1, cells := 0, slots := 0, locals := 22 } G ttC tag L Fo [.ref p0, .int p1, .int p2] (fun r F1 => ((-2147483648) ≤ r.toInt ∧ r.toInt ≤ 2147483647) ∧ ((∀ b j : Nat, (tag b ≠ 46 ∨ j ≠ 0) → (tag b ≠ 46 ∨ j ≠ 1) → (tag b ≠ 46 ∨ j ≠ 2) → fld F1 b j = fld Fo b j) ∧ (∀ b j : Nat, elm F1 b j = elm Fo b j))) := by
  refine t_bodyi (y := yX13_stone) (cd := cX13_stone) (mL := 3) (rt := (some .int)) (rm := { frames := 1, cells := 0, slots := 0, locals := 22 }) (av := [.ref p0, .int p1, .int p2]) (by decide) (Nat.le_of_ble_eq_true rfl) ho ?_
  intro p e s m args below meth c ls A Q hQ X hT hl
  have hx := X.1.1
  have hb := X.1.2.1
  have hl : lv_has ls 3 [(0, .ref p0), (1, .int p1), (2, .int p2)] := hl
  have rp1 := rg_all p1
  have rp2 := rg_all p2
  obtain ⟨F, hFo⟩ : ∃ F : Nat → va_E, F = Fo := ⟨_, rfl⟩
  rw [← hFo] at hT pf0
  have hfr : (∀ b j : Nat, (tag b ≠ 46 ∨ j ≠ 0) → (tag b ≠ 46 ∨ j ≠ 1) → (tag b ≠ 46 ∨ j ≠ 2) → fld F b j = fld Fo b j) ∧ (∀ b j : Nat, elm F b j = elm Fo b j) := by
    rw [hFo]
    exact ⟨by intros; rfl, by intros; rfl⟩
  refine lv_aload_n hx hb dX13_stone_0 rfl (lv_at hl 0 rfl) ?_
  refine lv_iconst (v := 0) hx hb dX13_stone_1 (by decide) ?_
  refine t_put (C := RX13) (T := TX13) (N := 37) (v := .int 0) X hT m0 g0 rfl tyX13 tyX13_ok nmX13 rfl 0 (by decide) qw_140 inlX13 rfl (by first | rfl | decide) (by first | rfl | decide) rfl (⟨_, rfl, (show (-2147483648) ≤ (0 : Int32).toInt from (by decide)), (show (0 : Int32).toInt ≤ 2147483647 from (by decide))⟩) dX13_stone_2 (fun F H locs hT v79535 h1v79535 h2v79535 => ?_)
  have pf0 := (h1v79535 _ _ (Or.inr (by decide))).trans pf0
  have hfr : (∀ b j : Nat, (tag b ≠ 46 ∨ j ≠ 0) → (tag b ≠ 46 ∨ j ≠ 1) → (tag b ≠ 46 ∨ j ≠ 2) → fld F b j = fld Fo b j) ∧ (∀ b j : Nat, elm F b j = elm Fo b j) := ⟨fun b j n46_0 n46_1 n46_2 => (h1v79535 b j (fr_ne g0 n46_0)).trans (hfr.1 b j n46_0 n46_1 n46_2), fun b j  => (h2v79535 b j).trans (hfr.2 b j )⟩
  refine lv_aload_n hx hb dX13_stone_5 rfl (lv_at hl 0 rfl) ?_
  refine lv_iload_n hx hb dX13_stone_6 rfl (lv_at hl 1 rfl) ?_
  refine t_cVi (n := 1) (C := RX13) (T := TX13) (N := 37) (As := [.int p1]) (rest := []) X hT (km259_X13_isStone l G tag L F hT.2.2.2 p0 p1 m0 g0 pf0) m0 g0 rfl rfl qw_967 qw_968 qw_969 qw_5 qw_970 ⟨rfl, by decide +kernel, by decide +kernel, by decide +kernel⟩ ⟨Nat.le_of_ble_eq_true rfl, Nat.le_of_ble_eq_true rfl⟩ hl rfl rfl (Nat.le_of_ble_eq_true rfl) dX13_stone_7 ⟨Nat.le_of_ble_eq_true rfl, Nat.le_of_ble_eq_true rfl⟩ (fun z79536 F9 H locs hT hz79536 => ?_)
  obtain ⟨fz79536, hz79536⟩ := hz79536
  rw [fz79536] at hT
  refine lv_if_eq (tgt := 22) hx hb dX13_stone_10 (by decide) (fun c79537 => ?_) (fun c79537 => ?_)
  · have w79538 := cv_eq (rfl : z79536.toInt = z79536.toInt) (by decide : (0 : Int32).toInt = 0) c79537
    refine lv_aload_n hx hb dX13_stone_22 rfl (lv_at hl 0 rfl) ?_
    refine lv_iconst (v := 1) hx hb dX13_stone_23 (by decide) ?_
    refine t_cVi (n := 1) (C := RX13) (T := TX13) (N := 37) (As := [.int 1]) (rest := []) X hT (km88_X13_refused l G tag L F hT.2.2.2 p0 1 m0 g0) m0 g0 rfl rfl qw_484 qw_485 qw_486 qw_5 qw_487 ⟨rfl, by decide +kernel, by decide +kernel, by decide +kernel⟩ ⟨Nat.le_of_ble_eq_true rfl, Nat.le_of_ble_eq_true rfl⟩ hl rfl rfl (Nat.le_of_ble_eq_true rfl) dX13_stone_24 ⟨Nat.le_of_ble_eq_true rfl, Nat.le_of_ble_eq_true rfl⟩ (fun z79539 F H locs hT hz79539 => ?_)
    obtain ⟨hz79539, yz79539⟩ := hz79539
    have pf0 := (yz79539.1 _ 3 (Or.inr (by decide)) (Or.inr (by decide))).trans pf0
    have v79535 := (yz79539.1 _ 0 (Or.inr (by decide)) (Or.inr (by decide))).trans v79535
    have hfr : (∀ b j : Nat, (tag b ≠ 46 ∨ j ≠ 0) → (tag b ≠ 46 ∨ j ≠ 1) → (tag b ≠ 46 ∨ j ≠ 2) → fld F b j = fld Fo b j) ∧ (∀ b j : Nat, elm F b j = elm Fo b j) := ⟨fun b j n46_0 n46_1 n46_2 => (yz79539.1 b j n46_1 n46_2).trans (hfr.1 b j n46_0 n46_1 n46_2), fun b j  => (yz79539.2 b j ).trans (hfr.2 b j )⟩
    exact t_iret hQ X hT (⟨rg_all _, hfr⟩) (Nat.le_of_ble_eq_true rfl) (Nat.le_of_ble_eq_true rfl) dX13_stone_27
  · have w79540 := cv_ne (rfl : z79536.toInt = z79536.toInt) (by decide : (0 : Int32).toInt = 0) c79537
    exfalso
    omega
theorem kp_X13_stone (l : Launch) (G : KG) (tag : Nat → Nat) (L : List Nat) (Fo : Nat → va_E) (ho : okT G ttC tag L Fo) (p0 : Nat) (p1 : Int32) (p2 : Int32) (m0 : p0 ∈ L) (g0 : tag p0 = 46) : TMi l yX13_stone cX13_stone 3 (some .int) { frames := 1, cells := 0, slots := 0, locals := 22 } G ttC tag L Fo [.ref p0, .int p1, .int p2] (fun r F1 => ((-2147483648) ≤ r.toInt ∧ r.toInt ≤ 2147483647) ∧ ((∀ b j : Nat, (tag b ≠ 46 ∨ j ≠ 0) → (tag b ≠ 46 ∨ j ≠ 1) → (tag b ≠ 46 ∨ j ≠ 2) → fld F1 b j = fld Fo b j) ∧ (∀ b j : Nat, elm F1 b j = elm Fo b j))) := by
  rcases t_fldn ho m0 g0 rfl 3 rfl with h9 | ⟨b9, h9, m9, t9⟩
  · exact km260_X13_stone l G tag L Fo ho p0 p1 p2  m0 g0 h9 
  · exact km258_X13_stone l G tag L Fo ho p0 p1 p2 b9  m0 g0 m9 (tg_of t9) h9 
set_option maxHeartbeats 4000000 in
set_option maxRecDepth 100000 in
theorem km262_X13_led (l : Launch) (G : KG) (tag : Nat → Nat) (L : List Nat) (Fo : Nat → va_E) (ho : okT G ttC tag L Fo) (p0 : Nat) (p1 : Int32) (x0 : Nat) (m0 : p0 ∈ L) (g0 : tag p0 = 46) (mx0 : x0 ∈ L) (gx0 : tag x0 = 45) (pf0 : fld Fo p0 3 = .ref x0) : TMi l yX13_led cX13_led 4 (some .int) { frames := 5, cells := 0, slots := 0, locals := 121 } G ttC tag L Fo [.ref p0, .int p1] (fun r F1 => ((-2147483648) ≤ r.toInt ∧ r.toInt ≤ 2147483647) ∧ ((∀ b j : Nat, (tag b ≠ 46 ∨ j ≠ 0) → fld F1 b j = fld Fo b j) ∧ (∀ b j : Nat, elm F1 b j = elm Fo b j))) := by
  refine t_bodyi (y := yX13_led) (cd := cX13_led) (mL := 4) (rt := (some .int)) (rm := { frames := 5, cells := 0, slots := 0, locals := 121 }) (av := [.ref p0, .int p1]) (by decide) (Nat.le_of_ble_eq_true rfl) ho ?_
  intro p e s m args below meth c ls A Q hQ X hT hl
  have hx := X.1.1
  have hb := X.1.2.1
  have hl : lv_has ls 4 [(0, .ref p0), (1, .int p1)] := hl
  have rp1 := rg_all p1
  obtain ⟨F, hFo⟩ : ∃ F : Nat → va_E, F = Fo := ⟨_, rfl⟩
  rw [← hFo] at hT pf0
  have hfr : (∀ b j : Nat, (tag b ≠ 46 ∨ j ≠ 0) → fld F b j = fld Fo b j) ∧ (∀ b j : Nat, elm F b j = elm Fo b j) := by
    rw [hFo]
    exact ⟨by intros; rfl, by intros; rfl⟩
  have K58 : ∀ (z80595 : Int32) (z80596 : Int32) (z80597 : Int32) (z80598 : Int32) (F : Nat → va_E) (H : Heap) (locs : List Loc) (ls : Array Slot), (0 ≤ z80596.toInt ∧ z80596.toInt ≤ 4) → (0 ≤ z80597.toInt ∧ z80597.toInt ≤ 0) → (0 ≤ z80598.toInt ∧ z80598.toInt ≤ 4) → TH G ttC A s tag L F H locs → ((∀ b j : Nat, (tag b ≠ 46 ∨ j ≠ 0) → fld F b j = fld Fo b j) ∧ (∀ b j : Nat, elm F b j = elm Fo b j)) → (fld F p0 3 = .ref x0) → (fld F p0 0 = .int z80597) → (fld F x0 8 = .int z80598) → lv_has ls 4 [(0, .ref p0), (1, .int p1), (2, .int z80595), (3, .int z80596)] → W p l e { frames := 5, cells := 0, slots := 0, locals := 121 } s m args below meth c H locs 0 0 Q (F0 m 58 ls []) := by
    intro z80595 z80596 z80597 z80598 F H locs ls rz80596 rz80597 rz80598 hT hfr pf0 qz80597 qz80598 hl
    have rz80595 := rg_all z80595
    refine lv_aload_n hx hb dX13_led_58 rfl (lv_at hl 0 rfl) ?_
    refine lv_iconst (v := 1) hx hb dX13_led_59 (by decide) ?_
    refine t_put (C := RX13) (T := TX13) (N := 37) (v := .int 1) X hT m0 g0 rfl tyX13 tyX13_ok nmX13 rfl 0 (by decide) qw_140 inlX13 rfl (by first | rfl | decide) (by first | rfl | decide) rfl (⟨_, rfl, (show (-2147483648) ≤ (1 : Int32).toInt from (by decide)), (show (1 : Int32).toInt ≤ 2147483647 from (by decide))⟩) dX13_led_60 (fun F H locs hT v80599 h1v80599 h2v80599 => ?_)
    have qz80598 := (h1v80599 _ _ (Or.inr (by decide))).trans qz80598
    have pf0 := (h1v80599 _ _ (Or.inr (by decide))).trans pf0
    have hfr : (∀ b j : Nat, (tag b ≠ 46 ∨ j ≠ 0) → fld F b j = fld Fo b j) ∧ (∀ b j : Nat, elm F b j = elm Fo b j) := ⟨fun b j n46_0 => (h1v80599 b j (fr_ne g0 n46_0)).trans (hfr.1 b j n46_0), fun b j  => (h2v80599 b j).trans (hfr.2 b j )⟩
    refine lv_iconst (v := 0) hx hb dX13_led_63 (by decide) ?_
    have k80600 : (0 : Int32).toInt = 0 := by decide
    exact t_iret hQ X hT (⟨rg_all _, hfr⟩) (Nat.le_of_ble_eq_true rfl) (Nat.le_of_ble_eq_true rfl) dX13_led_64
  have K9 : ∀ (n : Nat) (z80601 : Int32) (z80602 : Int32) (z80603 : Int32) (F : Nat → va_E) (H : Heap) (locs : List Loc) (ls : Array Slot), (4 - z80602.toInt < (n : Int)) → (0 ≤ z80602.toInt ∧ z80602.toInt ≤ 4) → (0 ≤ z80603.toInt ∧ z80603.toInt ≤ 0) → TH G ttC A s tag L F H locs → ((∀ b j : Nat, (tag b ≠ 46 ∨ j ≠ 0) → fld F b j = fld Fo b j) ∧ (∀ b j : Nat, elm F b j = elm Fo b j)) → (fld F p0 3 = .ref x0) → (fld F p0 0 = .int z80603) → lv_has ls 4 [(0, .ref p0), (1, .int p1), (2, .int z80601), (3, .int z80602)] → W p l e { frames := 5, cells := 0, slots := 0, locals := 121 } s m args below meth c H locs 0 0 Q (F0 m 9 ls []) := by
    intro n
    induction n with
    | zero =>
      intro z80601 z80602 z80603 F H locs ls hn rz80602 rz80603 hT hfr pf0 qz80603 hl
      have rz80601 := rg_all z80601
      exfalso
      omega
    | succ n ih9 =>
      intro z80601 z80602 z80603 F H locs ls hn rz80602 rz80603 hT hfr pf0 qz80603 hl
      have rz80601 := rg_all z80601
      have K52 : ∀ (z80604 : Int32) (z80606 : Int32) (z80607 : Int32) (F : Nat → va_E) (H : Heap) (locs : List Loc) (ls : Array Slot), (0 ≤ z80606.toInt ∧ z80606.toInt ≤ 0) → (1 ≤ z80607.toInt ∧ z80607.toInt ≤ 4) → (0 ≤ z80602.toInt ∧ z80602.toInt ≤ 3) → TH G ttC A s tag L F H locs → ((∀ b j : Nat, (tag b ≠ 46 ∨ j ≠ 0) → fld F b j = fld Fo b j) ∧ (∀ b j : Nat, elm F b j = elm Fo b j)) → (fld F p0 3 = .ref x0) → (fld F p0 0 = .int z80606) → (fld F x0 8 = .int z80607) → lv_has ls 4 [(0, .ref p0), (1, .int p1), (2, .int z80604), (3, .int z80602)] → W p l e { frames := 5, cells := 0, slots := 0, locals := 121 } s m args below meth c H locs 0 0 Q (F0 m 52 ls []) := by
        intro z80604 z80606 z80607 F H locs ls rz80606 rz80607 r9s80605 hT hfr pf0 qz80606 qz80607 hl
        have rz80604 := rg_all z80604
        obtain ⟨z80608, ez80608⟩ : ∃ y : Int32, y = z80602 + 1 := ⟨_, rfl⟩
        have hz80608 : z80608.toInt = z80602.toInt + 1 := ar_add ez80608 rfl (by decide : (1 : Int32).toInt = 1) (by omega) (by omega)
        refine lv_iinc (v := z80608) (lv' := [(3, .int z80608), (0, .ref p0), (1, .int p1), (2, .int z80604)]) hx hb dX13_led_52 hl (k := 3) rfl (by rw [ez80608]; rfl) (by decide) rfl (fun ls hl => ?_)
        refine lv_goto (tgt := 9) hx hb dX13_led_55 (by decide) ?_
        exact ih9 z80604 z80608 z80606 _ _ _ _ (by omega) (by omega) (by omega) hT hfr pf0 qz80606 (lv_sub hl [1, 2, 3, 0] rfl)
      refine lv_aload_n hx hb dX13_led_9 rfl (lv_at hl 0 rfl) ?_
      refine t_get (C := RX13) (T := TX13) (N := 37) X hT m0 g0 rfl rfl 3 (by decide) qw_481 inlX13 rfl dX13_led_10 (fun v80609 hv80609 ov80609 => ?_)
      obtain rfl : v80609 = .ref x0 := hv80609.symm.trans pf0
      refine lv_ifnull hx hb dX13_led_13 ?_
      refine lv_iload_n hx hb dX13_led_16 rfl (lv_at hl 3 rfl) ?_
      refine lv_aload_n hx hb dX13_led_17 rfl (lv_at hl 0 rfl) ?_
      refine t_get (C := RX13) (T := TX13) (N := 37) X hT m0 g0 rfl rfl 3 (by decide) qw_481 inlX13 rfl dX13_led_18 (fun v80610 hv80610 ov80610 => ?_)
      obtain rfl : v80610 = .ref x0 := hv80610.symm.trans pf0
      refine t_getN (C := RX12) (T := TX12) (N := 31) X hT mx0 gx0 rfl rfl 8 (by decide) (List.mem_of_getElem? (i := 12) rfl) inlX12 rfl dX13_led_21 (fun v80611 hv80611 ov80611 => ?_)
      obtain ⟨z80612, rfl, rz80612⟩ := okV_i ov80611
      refine lv_icmp_ge (tgt := 58) hx hb dX13_led_24 (by decide) (fun c80613 => ?_) (fun c80613 => ?_)
      · have w80614 := cv_le (rfl : z80612.toInt = z80612.toInt) (rfl : z80602.toInt = z80602.toInt) c80613
        exact K58 z80601 z80602 z80603 z80612 _ _ _ _ (by omega) (by omega) (by omega) hT hfr pf0 qz80603 hv80611 (lv_sub hl [0, 1, 2, 3] rfl)
      · have w80615 := cv_nle (rfl : z80612.toInt = z80612.toInt) (rfl : z80602.toInt = z80602.toInt) c80613
        refine lv_aload_n hx hb dX13_led_27 rfl (lv_at hl 0 rfl) ?_
        refine lv_aload_n hx hb dX13_led_28 rfl (lv_at hl 0 rfl) ?_
        refine t_get (C := RX13) (T := TX13) (N := 37) X hT m0 g0 rfl rfl 16 (by decide) qw_112 inlX13 rfl dX13_led_29 (fun v80616 hv80616 ov80616 => ?_)
        obtain ⟨b80617, rfl, mb80617, gb80617⟩ := okV_r ov80616
        have gb80617 : tag b80617 = 37 := tg_of gb80617
        refine lv_iload_n hx hb dX13_led_32 rfl (lv_at hl 3 rfl) ?_
        refine t_cVi (n := 2) (C := RX13) (T := TX13) (N := 37) (As := [.ref b80617, .int z80602]) (rest := []) X hT (km114_X13_isShut l G tag L F hT.2.2.2 p0 b80617 z80602 x0 m0 g0 mb80617 gb80617 (by omega) mx0 gx0 pf0) m0 g0 rfl rfl qw_800 qw_801 qw_802 qw_5 qw_803 ⟨rfl, by decide +kernel, by decide +kernel, by decide +kernel⟩ ⟨Nat.le_of_ble_eq_true rfl, Nat.le_of_ble_eq_true rfl⟩ hl rfl rfl (Nat.le_of_ble_eq_true rfl) dX13_led_33 ⟨Nat.le_of_ble_eq_true rfl, Nat.le_of_ble_eq_true rfl⟩ (fun z80618 F9 H locs hT hz80618 => ?_)
        obtain ⟨fz80618, hz80618⟩ := hz80618
        rw [fz80618] at hT
        refine lv_if_ne (tgt := 42) hx hb dX13_led_36 (by decide) (fun c80619 => ?_) (fun c80619 => ?_)
        · have w80620 := cv_ne (rfl : z80618.toInt = z80618.toInt) (by decide : (0 : Int32).toInt = 0) c80619
          refine lv_iload_n hx hb dX13_led_42 rfl (lv_at hl 2 rfl) ?_
          refine lv_iload_n hx hb dX13_led_43 rfl (lv_at hl 1 rfl) ?_
          refine lv_icmp_ne (tgt := 49) hx hb dX13_led_44 (by decide) (fun c80621 => ?_) (fun c80621 => ?_)
          · have w80622 := cv_ne (rfl : z80601.toInt = z80601.toInt) (rfl : p1.toInt = p1.toInt) c80621
            obtain ⟨z80623, ez80623⟩ : ∃ y : Int32, y = z80601 + 1 := ⟨_, rfl⟩
            have rz80623 := rg_all z80623
            refine lv_iinc (v := z80623) (lv' := [(2, .int z80623), (0, .ref p0), (1, .int p1), (3, .int z80602)]) hx hb dX13_led_49 hl (k := 2) rfl (by rw [ez80623]; rfl) (by decide) rfl (fun ls hl => ?_)
            exact K52 z80623 z80603 z80612 _ _ _ _ (by omega) (by omega) (by omega) hT hfr pf0 qz80603 hv80611 (lv_sub hl [1, 2, 0, 3] rfl)
          · have w80624 := cv_eq (rfl : z80601.toInt = z80601.toInt) (rfl : p1.toInt = p1.toInt) c80621
            refine lv_iload_n hx hb dX13_led_47 rfl (lv_at hl 3 rfl) ?_
            exact t_iret hQ X hT (⟨rg_all _, hfr⟩) (Nat.le_of_ble_eq_true rfl) (Nat.le_of_ble_eq_true rfl) dX13_led_48
        · have w80625 := cv_eq (rfl : z80618.toInt = z80618.toInt) (by decide : (0 : Int32).toInt = 0) c80619
          refine lv_goto (tgt := 52) hx hb dX13_led_39 (by decide) ?_
          exact K52 z80601 z80603 z80612 _ _ _ _ (by omega) (by omega) (by omega) hT hfr pf0 qz80603 hv80611 (lv_sub hl [0, 1, 2, 3] rfl)
  refine lv_aload_n hx hb dX13_led_0 rfl (lv_at hl 0 rfl) ?_
  refine lv_iconst (v := 0) hx hb dX13_led_1 (by decide) ?_
  refine t_put (C := RX13) (T := TX13) (N := 37) (v := .int 0) X hT m0 g0 rfl tyX13 tyX13_ok nmX13 rfl 0 (by decide) qw_140 inlX13 rfl (by first | rfl | decide) (by first | rfl | decide) rfl (⟨_, rfl, (show (-2147483648) ≤ (0 : Int32).toInt from (by decide)), (show (0 : Int32).toInt ≤ 2147483647 from (by decide))⟩) dX13_led_2 (fun F H locs hT v80626 h1v80626 h2v80626 => ?_)
  have pf0 := (h1v80626 _ _ (Or.inr (by decide))).trans pf0
  have hfr : (∀ b j : Nat, (tag b ≠ 46 ∨ j ≠ 0) → fld F b j = fld Fo b j) ∧ (∀ b j : Nat, elm F b j = elm Fo b j) := ⟨fun b j n46_0 => (h1v80626 b j (fr_ne g0 n46_0)).trans (hfr.1 b j n46_0), fun b j  => (h2v80626 b j).trans (hfr.2 b j )⟩
  refine lv_iconst (v := 0) hx hb dX13_led_5 (by decide) ?_
  refine lv_istore_n (lv' := [(2, .int 0), (0, .ref p0), (1, .int p1)]) hx hb dX13_led_6 rfl hl (by decide) rfl (fun ls hl => ?_)
  refine lv_iconst (v := 0) hx hb dX13_led_7 (by decide) ?_
  refine lv_istore_n (lv' := [(3, .int 0), (2, .int 0), (0, .ref p0), (1, .int p1)]) hx hb dX13_led_8 rfl hl (by decide) rfl (fun ls hl => ?_)
  have k80627 : (0 : Int32).toInt = 0 := by decide
  have k80628 : (0 : Int32).toInt = 0 := by decide
  have k80629 : (0 : Int32).toInt = 0 := by decide
  exact K9 5 0 0 0 _ _ _ _ (by omega) (by decide) (by decide) hT hfr pf0 v80626 (lv_sub hl [2, 3, 1, 0] rfl)
