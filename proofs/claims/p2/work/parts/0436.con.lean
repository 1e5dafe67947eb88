set_option maxHeartbeats 4000000 in
set_option maxRecDepth 100000 in
theorem km253_X13_take (l : Launch) (G : KG) (tag : Nat → Nat) (L : List Nat) (Fo : Nat → va_E) (ho : okT G ttC tag L Fo) (p0 : Nat) (p1 : Int32) (m0 : p0 ∈ L) (g0 : tag p0 = 46) (pf0 : fld Fo p0 3 = .null) : TMi l yX13_take cX13_take 4 (some .int) { frames := 2, cells := 0, slots := 0, locals := 44 } G ttC tag L Fo [.ref p0, .int p1] (fun r F1 => ((-2147483648) ≤ r.toInt ∧ r.toInt ≤ 2147483647) ∧ ((∀ b j : Nat, (tag b ≠ 46 ∨ j ≠ 0) → (tag b ≠ 46 ∨ j ≠ 1) → (tag b ≠ 46 ∨ j ≠ 2) → (tag b ≠ 46 ∨ j ≠ 20) → fld F1 b j = fld Fo b j) ∧ (∀ b j : Nat, tag b ≠ 37 → tag b ≠ 38 → elm F1 b j = elm Fo b j))) := by
  refine t_bodyi (y := yX13_take) (cd := cX13_take) (mL := 4) (rt := (some .int)) (rm := { frames := 2, cells := 0, slots := 0, locals := 44 }) (av := [.ref p0, .int p1]) (by decide) (Nat.le_of_ble_eq_true rfl) ho ?_
  intro p e s m args below meth c ls A Q hQ X hT hl
  have hx := X.1.1
  have hb := X.1.2.1
  have hl : lv_has ls 4 [(0, .ref p0), (1, .int p1)] := hl
  have rp1 := rg_all p1
  obtain ⟨F, hFo⟩ : ∃ F : Nat → va_E, F = Fo := ⟨_, rfl⟩
  rw [← hFo] at hT pf0
  have hfr : (∀ b j : Nat, (tag b ≠ 46 ∨ j ≠ 0) → (tag b ≠ 46 ∨ j ≠ 1) → (tag b ≠ 46 ∨ j ≠ 2) → (tag b ≠ 46 ∨ j ≠ 20) → fld F b j = fld Fo b j) ∧ (∀ b j : Nat, tag b ≠ 37 → tag b ≠ 38 → elm F b j = elm Fo b j) := by
    rw [hFo]
    exact ⟨by intros; rfl, by intros; rfl⟩
  refine lv_aload_n hx hb dX13_take_0 rfl (lv_at hl 0 rfl) ?_
  refine lv_iconst (v := 0) hx hb dX13_take_1 (by decide) ?_
  refine t_put (C := RX13) (T := TX13) (N := 37) (v := .int 0) X hT m0 g0 rfl tyX13 tyX13_ok nmX13 rfl 0 (by decide) qw_140 inlX13 rfl (by first | rfl | decide) (by first | rfl | decide) rfl (⟨_, rfl, (show (-2147483648) ≤ (0 : Int32).toInt from (by decide)), (show (0 : Int32).toInt ≤ 2147483647 from (by decide))⟩) dX13_take_2 (fun F H locs hT v77894 h1v77894 h2v77894 => ?_)
  have pf0 := (h1v77894 _ _ (Or.inr (by decide))).trans pf0
  have hfr : (∀ b j : Nat, (tag b ≠ 46 ∨ j ≠ 0) → (tag b ≠ 46 ∨ j ≠ 1) → (tag b ≠ 46 ∨ j ≠ 2) → (tag b ≠ 46 ∨ j ≠ 20) → fld F b j = fld Fo b j) ∧ (∀ b j : Nat, tag b ≠ 37 → tag b ≠ 38 → elm F b j = elm Fo b j) := ⟨fun b j n46_0 n46_1 n46_2 n46_20 => (h1v77894 b j (fr_ne g0 n46_0)).trans (hfr.1 b j n46_0 n46_1 n46_2 n46_20), fun b j a37 a38 => (h2v77894 b j).trans (hfr.2 b j a37 a38)⟩
  refine lv_aload_n hx hb dX13_take_5 rfl (lv_at hl 0 rfl) ?_
  refine lv_iload_n hx hb dX13_take_6 rfl (lv_at hl 1 rfl) ?_
  refine t_cVi (n := 1) (C := RX13) (T := TX13) (N := 37) (As := [.int p1]) (rest := []) X hT (km116_X13_isHouse l G tag L F hT.2.2.2 p0 p1 m0 g0 pf0) m0 g0 rfl rfl qw_796 qw_797 qw_798 qw_5 qw_799 ⟨rfl, by decide +kernel, by decide +kernel, by decide +kernel⟩ ⟨Nat.le_of_ble_eq_true rfl, Nat.le_of_ble_eq_true rfl⟩ hl rfl rfl (Nat.le_of_ble_eq_true rfl) dX13_take_7 ⟨Nat.le_of_ble_eq_true rfl, Nat.le_of_ble_eq_true rfl⟩ (fun z77895 F9 H locs hT hz77895 => ?_)
  obtain ⟨fz77895, hz77895⟩ := hz77895
  rw [fz77895] at hT
  refine lv_if_ne (tgt := 19) hx hb dX13_take_10 (by decide) (fun c77896 => ?_) (fun c77896 => ?_)
  · have w77897 := cv_ne (rfl : z77895.toInt = z77895.toInt) (by decide : (0 : Int32).toInt = 0) c77896
    exfalso
    omega
  · have w77898 := cv_eq (rfl : z77895.toInt = z77895.toInt) (by decide : (0 : Int32).toInt = 0) c77896
    refine lv_aload_n hx hb dX13_take_13 rfl (lv_at hl 0 rfl) ?_
    refine lv_iconst (v := 1) hx hb dX13_take_14 (by decide) ?_
    refine t_cVi (n := 1) (C := RX13) (T := TX13) (N := 37) (As := [.int 1]) (rest := []) X hT (km88_X13_refused l G tag L F hT.2.2.2 p0 1 m0 g0) m0 g0 rfl rfl qw_484 qw_485 qw_486 qw_5 qw_487 ⟨rfl, by decide +kernel, by decide +kernel, by decide +kernel⟩ ⟨Nat.le_of_ble_eq_true rfl, Nat.le_of_ble_eq_true rfl⟩ hl rfl rfl (Nat.le_of_ble_eq_true rfl) dX13_take_15 ⟨Nat.le_of_ble_eq_true rfl, Nat.le_of_ble_eq_true rfl⟩ (fun z77899 F H locs hT hz77899 => ?_)
    obtain ⟨hz77899, yz77899⟩ := hz77899
    have pf0 := (yz77899.1 _ 3 (Or.inr (by decide)) (Or.inr (by decide))).trans pf0
    have v77894 := (yz77899.1 _ 0 (Or.inr (by decide)) (Or.inr (by decide))).trans v77894
    have hfr : (∀ b j : Nat, (tag b ≠ 46 ∨ j ≠ 0) → (tag b ≠ 46 ∨ j ≠ 1) → (tag b ≠ 46 ∨ j ≠ 2) → (tag b ≠ 46 ∨ j ≠ 20) → fld F b j = fld Fo b j) ∧ (∀ b j : Nat, tag b ≠ 37 → tag b ≠ 38 → elm F b j = elm Fo b j) := ⟨fun b j n46_0 n46_1 n46_2 n46_20 => (yz77899.1 b j n46_1 n46_2).trans (hfr.1 b j n46_0 n46_1 n46_2 n46_20), fun b j a37 a38 => (yz77899.2 b j ).trans (hfr.2 b j a37 a38)⟩
    exact t_iret hQ X hT (⟨rg_all _, hfr⟩) (Nat.le_of_ble_eq_true rfl) (Nat.le_of_ble_eq_true rfl) dX13_take_18
theorem kp_X13_take (l : Launch) (G : KG) (tag : Nat → Nat) (L : List Nat) (Fo : Nat → va_E) (ho : okT G ttC tag L Fo) (p0 : Nat) (p1 : Int32) (m0 : p0 ∈ L) (g0 : tag p0 = 46) : TMi l yX13_take cX13_take 4 (some .int) { frames := 2, cells := 0, slots := 0, locals := 44 } G ttC tag L Fo [.ref p0, .int p1] (fun r F1 => ((-2147483648) ≤ r.toInt ∧ r.toInt ≤ 2147483647) ∧ ((∀ b j : Nat, (tag b ≠ 46 ∨ j ≠ 0) → (tag b ≠ 46 ∨ j ≠ 1) → (tag b ≠ 46 ∨ j ≠ 2) → (tag b ≠ 46 ∨ j ≠ 20) → fld F1 b j = fld Fo b j) ∧ (∀ b j : Nat, tag b ≠ 37 → tag b ≠ 38 → elm F1 b j = elm Fo b j))) := by
  rcases t_fldn ho m0 g0 rfl 3 rfl with h9 | ⟨b9, h9, m9, t9⟩
  · exact km253_X13_take l G tag L Fo ho p0 p1  m0 g0 h9 
  · exact km252_X13_take l G tag L Fo ho p0 p1 b9  m0 g0 m9 (tg_of t9) h9 
set_option maxHeartbeats 4000000 in
set_option maxRecDepth 100000 in
theorem km255_X13_mark (l : Launch) (G : KG) (tag : Nat → Nat) (L : List Nat) (Fo : Nat → va_E) (ho : okT G ttC tag L Fo) (p0 : Nat) (x0 : Nat) (m0 : p0 ∈ L) (g0 : tag p0 = 46) (mx0 : x0 ∈ L) (gx0 : tag x0 = 45) (pf0 : fld Fo p0 3 = .ref x0) : TMi l yX13_mark cX13_mark 2 (some .int) { frames := 1, cells := 0, slots := 0, locals := 21 } G ttC tag L Fo [.ref p0] (fun r F1 => ((-2147483648) ≤ r.toInt ∧ r.toInt ≤ 2147483647) ∧ ((∀ b j : Nat, (tag b ≠ 46 ∨ j ≠ 0) → (tag b ≠ 46 ∨ j ≠ 1) → (tag b ≠ 46 ∨ j ≠ 2) → (tag b ≠ 46 ∨ j ≠ 21) → fld F1 b j = fld Fo b j) ∧ (∀ b j : Nat, tag b ≠ 39 → elm F1 b j = elm Fo b j))) := by
  refine t_bodyi (y := yX13_mark) (cd := cX13_mark) (mL := 2) (rt := (some .int)) (rm := { frames := 1, cells := 0, slots := 0, locals := 21 }) (av := [.ref p0]) (by decide) (Nat.le_of_ble_eq_true rfl) ho ?_
  intro p e s m args below meth c ls A Q hQ X hT hl
  have hx := X.1.1
  have hb := X.1.2.1
  have hl : lv_has ls 2 [(0, .ref p0)] := hl
  obtain ⟨F, hFo⟩ : ∃ F : Nat → va_E, F = Fo := ⟨_, rfl⟩
  rw [← hFo] at hT pf0
  have hfr : (∀ b j : Nat, (tag b ≠ 46 ∨ j ≠ 0) → (tag b ≠ 46 ∨ j ≠ 1) → (tag b ≠ 46 ∨ j ≠ 2) → (tag b ≠ 46 ∨ j ≠ 21) → fld F b j = fld Fo b j) ∧ (∀ b j : Nat, tag b ≠ 39 → elm F b j = elm Fo b j) := by
    rw [hFo]
    exact ⟨by intros; rfl, by intros; rfl⟩
  have K34 : ∀ (n : Nat) (z78587 : Int32) (z78588 : Int32) (z78589 : Int32) (F : Nat → va_E) (H : Heap) (locs : List Loc) (ls : Array Slot), (212 - z78587.toInt < (n : Int)) → (0 ≤ z78587.toInt ∧ z78587.toInt ≤ 212) → (0 ≤ z78588.toInt ∧ z78588.toInt ≤ 0) → (0 ≤ z78589.toInt ∧ z78589.toInt ≤ 2) → TH G ttC A s tag L F H locs → ((∀ b j : Nat, (tag b ≠ 46 ∨ j ≠ 0) → (tag b ≠ 46 ∨ j ≠ 1) → (tag b ≠ 46 ∨ j ≠ 2) → (tag b ≠ 46 ∨ j ≠ 21) → fld F b j = fld Fo b j) ∧ (∀ b j : Nat, tag b ≠ 39 → elm F b j = elm Fo b j)) → (fld F p0 3 = .ref x0) → (fld F p0 0 = .int z78588) → (fld F p0 21 = .int z78589) → lv_has ls 2 [(0, .ref p0), (1, .int z78587)] → W p l e { frames := 1, cells := 0, slots := 0, locals := 21 } s m args below meth c H locs 0 0 Q (F0 m 34 ls []) := by
    intro n
    induction n with
    | zero =>
      intro z78587 z78588 z78589 F H locs ls hn rz78587 rz78588 rz78589 hT hfr pf0 qz78588 qz78589 hl
      exfalso
      omega
    | succ n ih34 =>
      intro z78587 z78588 z78589 F H locs ls hn rz78587 rz78588 rz78589 hT hfr pf0 qz78588 qz78589 hl
      refine lv_iload_n hx hb dX13_mark_34 rfl (lv_at hl 1 rfl) ?_
      refine lv_sipush (v := 212) hx hb dX13_mark_35 (by decide) ?_
      refine lv_icmp_ge (tgt := 68) hx hb dX13_mark_38 (by decide) (fun c78590 => ?_) (fun c78590 => ?_)
      · have w78591 := cv_le (by decide : (212 : Int32).toInt = 212) (rfl : z78587.toInt = z78587.toInt) c78590
        refine lv_aload_n hx hb dX13_mark_68 rfl (lv_at hl 0 rfl) ?_
        refine lv_dup hx hb dX13_mark_69 rfl ?_
        refine t_get (C := RX13) (T := TX13) (N := 37) X hT m0 g0 rfl rfl 21 (by decide) qw_483 inlX13 rfl dX13_mark_70 (fun v78592 hv78592 ov78592 => ?_)
        obtain rfl : v78592 = .int z78589 := hv78592.symm.trans qz78589
        refine lv_iconst (v := 1) hx hb dX13_mark_73 (by decide) ?_
        refine lv_iadd hx hb dX13_mark_74 ?_
        refine lv_topi (fun z78593 ez78593 => ?_)
        have hz78593 : z78593.toInt = z78589.toInt + 1 := ar_add ez78593 (rfl : z78589.toInt = z78589.toInt) (by decide : (1 : Int32).toInt = 1) (by omega) (by omega)
        have rz78593 : 1 ≤ z78593.toInt ∧ z78593.toInt ≤ 3 := by omega
        refine t_put (C := RX13) (T := TX13) (N := 37) (v := .int z78593) X hT m0 g0 rfl tyX13 tyX13_ok nmX13 rfl 21 (by decide) qw_483 inlX13 rfl (by first | rfl | decide) (by first | rfl | decide) rfl (⟨_, rfl, (show 0 ≤ (z78593 : Int32).toInt from (by omega)), (show (z78593 : Int32).toInt ≤ 3 from (by omega))⟩) dX13_mark_75 (fun F H locs hT v78594 h1v78594 h2v78594 => ?_)
        have qz78588 := (h1v78594 _ _ (Or.inr (by decide))).trans qz78588
        have pf0 := (h1v78594 _ _ (Or.inr (by decide))).trans pf0
        have hfr : (∀ b j : Nat, (tag b ≠ 46 ∨ j ≠ 0) → (tag b ≠ 46 ∨ j ≠ 1) → (tag b ≠ 46 ∨ j ≠ 2) → (tag b ≠ 46 ∨ j ≠ 21) → fld F b j = fld Fo b j) ∧ (∀ b j : Nat, tag b ≠ 39 → elm F b j = elm Fo b j) := ⟨fun b j n46_0 n46_1 n46_2 n46_21 => (h1v78594 b j (fr_ne g0 n46_21)).trans (hfr.1 b j n46_0 n46_1 n46_2 n46_21), fun b j a39 => (h2v78594 b j).trans (hfr.2 b j a39)⟩
        refine lv_aload_n hx hb dX13_mark_78 rfl (lv_at hl 0 rfl) ?_
        refine lv_aload_n hx hb dX13_mark_79 rfl (lv_at hl 0 rfl) ?_
        refine t_get (C := RX13) (T := TX13) (N := 37) X hT m0 g0 rfl rfl 21 (by decide) qw_483 inlX13 rfl dX13_mark_80 (fun v78595 hv78595 ov78595 => ?_)
        obtain rfl : v78595 = .int z78593 := hv78595.symm.trans v78594
        refine lv_iconst (v := 1) hx hb dX13_mark_83 (by decide) ?_
        refine lv_isub hx hb dX13_mark_84 ?_
        refine lv_topi (fun z78596 ez78596 => ?_)
        have hz78596 : z78596.toInt = z78593.toInt - 1 := ar_sub ez78596 (rfl : z78593.toInt = z78593.toInt) (by decide : (1 : Int32).toInt = 1) (by omega) (by omega)
        have rz78596 : 0 ≤ z78596.toInt ∧ z78596.toInt ≤ 2 := by omega
        refine t_cVi (n := 1) (C := RX13) (T := TX13) (N := 37) (As := [.int z78596]) (rest := []) X hT (km93_X13_good l G tag L F hT.2.2.2 p0 z78596 m0 g0) m0 g0 rfl rfl qw_687 qw_688 qw_689 qw_5 qw_690 ⟨rfl, by decide +kernel, by decide +kernel, by decide +kernel⟩ ⟨Nat.le_of_ble_eq_true rfl, Nat.le_of_ble_eq_true rfl⟩ hl rfl rfl (Nat.le_of_ble_eq_true rfl) dX13_mark_85 ⟨Nat.le_of_ble_eq_true rfl, Nat.le_of_ble_eq_true rfl⟩ (fun z78597 F H locs hT hz78597 => ?_)
        obtain ⟨hz78597, yz78597⟩ := hz78597
        have qz78588 := (yz78597.1 _ 0 (Or.inr (by decide)) (Or.inr (by decide))).trans qz78588
        have pf0 := (yz78597.1 _ 3 (Or.inr (by decide)) (Or.inr (by decide))).trans pf0
        have v78594 := (yz78597.1 _ 21 (Or.inr (by decide)) (Or.inr (by decide))).trans v78594
        have hfr : (∀ b j : Nat, (tag b ≠ 46 ∨ j ≠ 0) → (tag b ≠ 46 ∨ j ≠ 1) → (tag b ≠ 46 ∨ j ≠ 2) → (tag b ≠ 46 ∨ j ≠ 21) → fld F b j = fld Fo b j) ∧ (∀ b j : Nat, tag b ≠ 39 → elm F b j = elm Fo b j) := ⟨fun b j n46_0 n46_1 n46_2 n46_21 => (yz78597.1 b j n46_1 n46_2).trans (hfr.1 b j n46_0 n46_1 n46_2 n46_21), fun b j a39 => (yz78597.2 b j ).trans (hfr.2 b j a39)⟩
        exact t_iret hQ X hT (⟨rg_all _, hfr⟩) (Nat.le_of_ble_eq_true rfl) (Nat.le_of_ble_eq_true rfl) dX13_mark_88
      · have w78598 := cv_nle (by decide : (212 : Int32).toInt = 212) (rfl : z78587.toInt = z78587.toInt) c78590
        refine lv_aload_n hx hb dX13_mark_41 rfl (lv_at hl 0 rfl) ?_
        refine t_get (C := RX13) (T := TX13) (N := 37) X hT m0 g0 rfl rfl 19 (by decide) qw_115 inlX13 rfl dX13_mark_42 (fun v78599 hv78599 ov78599 => ?_)
        obtain ⟨b78600, rfl, mb78600, gb78600⟩ := okV_r ov78599
        have gb78600 : tag b78600 = 39 := tg_of gb78600
        refine lv_sipush (v := 212) hx hb dX13_mark_45 (by decide) ?_
        refine lv_aload_n hx hb dX13_mark_48 rfl (lv_at hl 0 rfl) ?_
        refine t_get (C := RX13) (T := TX13) (N := 37) X hT m0 g0 rfl rfl 21 (by decide) qw_483 inlX13 rfl dX13_mark_49 (fun v78601 hv78601 ov78601 => ?_)
        obtain rfl : v78601 = .int z78589 := hv78601.symm.trans qz78589
        refine lv_imul hx hb dX13_mark_52 ?_
        refine lv_topi (fun z78602 ez78602 => ?_)
        have hz78602 : z78602.toInt = 212 * z78589.toInt := ar_mul ez78602 (by decide : (212 : Int32).toInt = 212) (rfl : z78589.toInt = z78589.toInt) (by omega) (by omega)
        have rz78602 : 0 ≤ z78602.toInt ∧ z78602.toInt ≤ 424 := by omega
        refine lv_iload_n hx hb dX13_mark_53 rfl (lv_at hl 1 rfl) ?_
        refine lv_iadd hx hb dX13_mark_54 ?_
        refine lv_topi (fun z78603 ez78603 => ?_)
        have hz78603 : z78603.toInt = z78602.toInt + z78587.toInt := ar_add ez78603 (rfl : z78602.toInt = z78602.toInt) (rfl : z78587.toInt = z78587.toInt) (by omega) (by omega)
        have rz78603 : 0 ≤ z78603.toInt ∧ z78603.toInt ≤ 635 := by omega
        refine lv_aload_n hx hb dX13_mark_55 rfl (lv_at hl 0 rfl) ?_
        refine t_get (C := RX13) (T := TX13) (N := 37) X hT m0 g0 rfl rfl 16 (by decide) qw_112 inlX13 rfl dX13_mark_56 (fun v78604 hv78604 ov78604 => ?_)
        obtain ⟨b78605, rfl, mb78605, gb78605⟩ := okV_r ov78604
        have gb78605 : tag b78605 = 37 := tg_of gb78605
        refine lv_iload_n hx hb dX13_mark_59 rfl (lv_at hl 1 rfl) ?_
        refine t_ild X hT mb78605 gb78605 rfl (by omega) dX13_mark_60 (fun z78606 vz78606 rz78606 => ?_)
        have oz78606 := rz78606
        have rz78606 := rg_all z78606
        refine t_ist X hT mb78600 gb78600 rfl (by omega) (row_c1 (a := z78589.toInt) (by omega) (by omega) (by omega) oz78606) dX13_mark_61 (fun F H locs hT v78607 h1v78607 h2v78607 => ?_)
        have qz78588 := (h2v78607 _ _).trans qz78588
        have qz78589 := (h2v78607 _ _).trans qz78589
        have pf0 := (h2v78607 _ _).trans pf0
        have hv78599 := (h2v78607 _ _).trans hv78599
        have hv78604 := (h2v78607 _ _).trans hv78604
        have vz78606 := (h1v78607 _ _ (Or.inl (tne gb78605 gb78600 (by decide)))).trans vz78606
        have hfr : (∀ b j : Nat, (tag b ≠ 46 ∨ j ≠ 0) → (tag b ≠ 46 ∨ j ≠ 1) → (tag b ≠ 46 ∨ j ≠ 2) → (tag b ≠ 46 ∨ j ≠ 21) → fld F b j = fld Fo b j) ∧ (∀ b j : Nat, tag b ≠ 39 → elm F b j = elm Fo b j) := ⟨fun b j n46_0 n46_1 n46_2 n46_21 => (h2v78607 b j).trans (hfr.1 b j n46_0 n46_1 n46_2 n46_21), fun b j a39 => (h1v78607 b j (Or.inl (at_ne gb78600 a39))).trans (hfr.2 b j a39)⟩
        obtain ⟨z78608, ez78608⟩ : ∃ y : Int32, y = z78587 + 1 := ⟨_, rfl⟩
        have hz78608 : z78608.toInt = z78587.toInt + 1 := ar_add ez78608 rfl (by decide : (1 : Int32).toInt = 1) (by omega) (by omega)
        refine lv_iinc (v := z78608) (lv' := [(1, .int z78608), (0, .ref p0)]) hx hb dX13_mark_62 hl (k := 1) rfl (by rw [ez78608]; rfl) (by decide) rfl (fun ls hl => ?_)
        refine lv_goto (tgt := 34) hx hb dX13_mark_65 (by decide) ?_
        exact ih34 z78608 z78588 z78589 _ _ _ _ (by omega) (by omega) (by omega) (by omega) hT hfr pf0 qz78588 qz78589 (lv_sub hl [1, 0] rfl)
  refine lv_aload_n hx hb dX13_mark_0 rfl (lv_at hl 0 rfl) ?_
  refine lv_iconst (v := 0) hx hb dX13_mark_1 (by decide) ?_
  refine t_put (C := RX13) (T := TX13) (N := 37) (v := .int 0) X hT m0 g0 rfl tyX13 tyX13_ok nmX13 rfl 0 (by decide) qw_140 inlX13 rfl (by first | rfl | decide) (by first | rfl | decide) rfl (⟨_, rfl, (show (-2147483648) ≤ (0 : Int32).toInt from (by decide)), (show (0 : Int32).toInt ≤ 2147483647 from (by decide))⟩) dX13_mark_2 (fun F H locs hT v78609 h1v78609 h2v78609 => ?_)
  have pf0 := (h1v78609 _ _ (Or.inr (by decide))).trans pf0
  have hfr : (∀ b j : Nat, (tag b ≠ 46 ∨ j ≠ 0) → (tag b ≠ 46 ∨ j ≠ 1) → (tag b ≠ 46 ∨ j ≠ 2) → (tag b ≠ 46 ∨ j ≠ 21) → fld F b j = fld Fo b j) ∧ (∀ b j : Nat, tag b ≠ 39 → elm F b j = elm Fo b j) := ⟨fun b j n46_0 n46_1 n46_2 n46_21 => (h1v78609 b j (fr_ne g0 n46_0)).trans (hfr.1 b j n46_0 n46_1 n46_2 n46_21), fun b j a39 => (h2v78609 b j).trans (hfr.2 b j a39)⟩
  refine lv_aload_n hx hb dX13_mark_5 rfl (lv_at hl 0 rfl) ?_
  refine t_get (C := RX13) (T := TX13) (N := 37) X hT m0 g0 rfl rfl 3 (by decide) qw_481 inlX13 rfl dX13_mark_6 (fun v78610 hv78610 ov78610 => ?_)
  obtain rfl : v78610 = .ref x0 := hv78610.symm.trans pf0
  refine lv_ifnonnull (tgt := 18) hx hb dX13_mark_9 (by decide) ?_
  refine lv_aload_n hx hb dX13_mark_18 rfl (lv_at hl 0 rfl) ?_
  refine t_get (C := RX13) (T := TX13) (N := 37) X hT m0 g0 rfl rfl 21 (by decide) qw_483 inlX13 rfl dX13_mark_19 (fun v78611 hv78611 ov78611 => ?_)
  obtain ⟨z78612, rfl, rz78612⟩ := okV_i ov78611
  refine lv_iconst (v := 3) hx hb dX13_mark_22 (by decide) ?_
  refine lv_icmp_ne (tgt := 32) hx hb dX13_mark_23 (by decide) (fun c78613 => ?_) (fun c78613 => ?_)
  · have w78614 := cv_ne (rfl : z78612.toInt = z78612.toInt) (by decide : (3 : Int32).toInt = 3) c78613
    refine lv_iconst (v := 0) hx hb dX13_mark_32 (by decide) ?_
    refine lv_istore_n (lv' := [(1, .int 0), (0, .ref p0)]) hx hb dX13_mark_33 rfl hl (by decide) rfl (fun ls hl => ?_)
    have k78615 : (0 : Int32).toInt = 0 := by decide
    have k78616 : (0 : Int32).toInt = 0 := by decide
    exact K34 213 0 0 z78612 _ _ _ _ (by omega) (by decide) (by decide) (by omega) hT hfr pf0 v78609 hv78611 (lv_sub hl [1, 0] rfl)
  · have w78617 := cv_eq (rfl : z78612.toInt = z78612.toInt) (by decide : (3 : Int32).toInt = 3) c78613
    refine lv_aload_n hx hb dX13_mark_26 rfl (lv_at hl 0 rfl) ?_
    refine lv_iconst (v := 3) hx hb dX13_mark_27 (by decide) ?_
    refine t_cVi (n := 1) (C := RX13) (T := TX13) (N := 37) (As := [.int 3]) (rest := []) X hT (km88_X13_refused l G tag L F hT.2.2.2 p0 3 m0 g0) m0 g0 rfl rfl qw_484 qw_485 qw_486 qw_5 qw_487 ⟨rfl, by decide +kernel, by decide +kernel, by decide +kernel⟩ ⟨Nat.le_of_ble_eq_true rfl, Nat.le_of_ble_eq_true rfl⟩ hl rfl rfl (Nat.le_of_ble_eq_true rfl) dX13_mark_28 ⟨Nat.le_of_ble_eq_true rfl, Nat.le_of_ble_eq_true rfl⟩ (fun z78618 F H locs hT hz78618 => ?_)
    obtain ⟨hz78618, yz78618⟩ := hz78618
    have pf0 := (yz78618.1 _ 3 (Or.inr (by decide)) (Or.inr (by decide))).trans pf0
    have v78609 := (yz78618.1 _ 0 (Or.inr (by decide)) (Or.inr (by decide))).trans v78609
    have hv78611 := (yz78618.1 _ 21 (Or.inr (by decide)) (Or.inr (by decide))).trans hv78611
    have hfr : (∀ b j : Nat, (tag b ≠ 46 ∨ j ≠ 0) → (tag b ≠ 46 ∨ j ≠ 1) → (tag b ≠ 46 ∨ j ≠ 2) → (tag b ≠ 46 ∨ j ≠ 21) → fld F b j = fld Fo b j) ∧ (∀ b j : Nat, tag b ≠ 39 → elm F b j = elm Fo b j) := ⟨fun b j n46_0 n46_1 n46_2 n46_21 => (yz78618.1 b j n46_1 n46_2).trans (hfr.1 b j n46_0 n46_1 n46_2 n46_21), fun b j a39 => (yz78618.2 b j ).trans (hfr.2 b j a39)⟩
    exact t_iret hQ X hT (⟨rg_all _, hfr⟩) (Nat.le_of_ble_eq_true rfl) (Nat.le_of_ble_eq_true rfl) dX13_mark_31
set_option maxHeartbeats 4000000 in
set_option maxRecDepth 100000 in
theorem km256_X13_mark (l : Launch) (G : KG) (tag : Nat → Nat) (L : List Nat) (Fo : Nat → va_E) (ho : okT G ttC tag L Fo) (p0 : Nat) (m0 : p0 ∈ L) (g0 : tag p0 = 46) (pf0 : fld Fo p0 3 = .null) : TMi l yX13_mark cX13_mark 2 (some .int) { frames := 1, cells := 0, slots := 0, locals := 21 } G ttC tag L Fo [.ref p0] (fun r F1 => ((-2147483648) ≤ r.toInt ∧ r.toInt ≤ 2147483647) ∧ ((∀ b j : Nat, (tag b ≠ 46 ∨ j ≠ 0) → (tag b ≠ 46 ∨ j ≠ 1) → (tag b ≠ 46 ∨ j ≠ 2) → (tag b ≠ 46 ∨ j ≠ 21) → fld F1 b j = fld Fo b j) ∧ (∀ b j : Nat, tag b ≠ 39 → elm F1 b j = elm Fo b j))) := by
  refine t_bodyi (y := yX13_mark) (cd := cX13_mark) (mL := 2) (rt := (some .int)) (rm := { frames := 1, cells := 0, slots := 0, locals := 21 }) (av := [.ref p0]) (by decide) (Nat.le_of_ble_eq_true rfl) ho ?_
  intro p e s m args below meth c ls A Q hQ X hT hl
  have hx := X.1.1
  have hb := X.1.2.1
  have hl : lv_has ls 2 [(0, .ref p0)] := hl
  obtain ⟨F, hFo⟩ : ∃ F : Nat → va_E, F = Fo := ⟨_, rfl⟩
  rw [← hFo] at hT pf0
  have hfr : (∀ b j : Nat, (tag b ≠ 46 ∨ j ≠ 0) → (tag b ≠ 46 ∨ j ≠ 1) → (tag b ≠ 46 ∨ j ≠ 2) → (tag b ≠ 46 ∨ j ≠ 21) → fld F b j = fld Fo b j) ∧ (∀ b j : Nat, tag b ≠ 39 → elm F b j = elm Fo b j) := by
    rw [hFo]
    exact ⟨by intros; rfl, by intros; rfl⟩
  refine lv_aload_n hx hb dX13_mark_0 rfl (lv_at hl 0 rfl) ?_
  refine lv_iconst (v := 0) hx hb dX13_mark_1 (by decide) ?_
  refine t_put (C := RX13) (T := TX13) (N := 37) (v := .int 0) X hT m0 g0 rfl tyX13 tyX13_ok nmX13 rfl 0 (by decide) qw_140 inlX13 rfl (by first | rfl | decide) (by first | rfl | decide) rfl (⟨_, rfl, (show (-2147483648) ≤ (0 : Int32).toInt from (by decide)), (show (0 : Int32).toInt ≤ 2147483647 from (by decide))⟩) dX13_mark_2 (fun F H locs hT v78652 h1v78652 h2v78652 => ?_)
  have pf0 := (h1v78652 _ _ (Or.inr (by decide))).trans pf0
  have hfr : (∀ b j : Nat, (tag b ≠ 46 ∨ j ≠ 0) → (tag b ≠ 46 ∨ j ≠ 1) → (tag b ≠ 46 ∨ j ≠ 2) → (tag b ≠ 46 ∨ j ≠ 21) → fld F b j = fld Fo b j) ∧ (∀ b j : Nat, tag b ≠ 39 → elm F b j = elm Fo b j) := ⟨fun b j n46_0 n46_1 n46_2 n46_21 => (h1v78652 b j (fr_ne g0 n46_0)).trans (hfr.1 b j n46_0 n46_1 n46_2 n46_21), fun b j a39 => (h2v78652 b j).trans (hfr.2 b j a39)⟩
  refine lv_aload_n hx hb dX13_mark_5 rfl (lv_at hl 0 rfl) ?_
  refine t_get (C := RX13) (T := TX13) (N := 37) X hT m0 g0 rfl rfl 3 (by decide) qw_481 inlX13 rfl dX13_mark_6 (fun v78653 hv78653 ov78653 => ?_)
  obtain rfl : v78653 = .null := hv78653.symm.trans pf0
  refine lv_ifnonnullN hx hb dX13_mark_9 ?_
  refine lv_aload_n hx hb dX13_mark_12 rfl (lv_at hl 0 rfl) ?_
  refine lv_iconst (v := 1) hx hb dX13_mark_13 (by decide) ?_
  refine t_cVi (n := 1) (C := RX13) (T := TX13) (N := 37) (As := [.int 1]) (rest := []) X hT (km88_X13_refused l G tag L F hT.2.2.2 p0 1 m0 g0) m0 g0 rfl rfl qw_484 qw_485 qw_486 qw_5 qw_487 ⟨rfl, by decide +kernel, by decide +kernel, by decide +kernel⟩ ⟨Nat.le_of_ble_eq_true rfl, Nat.le_of_ble_eq_true rfl⟩ hl rfl rfl (Nat.le_of_ble_eq_true rfl) dX13_mark_14 ⟨Nat.le_of_ble_eq_true rfl, Nat.le_of_ble_eq_true rfl⟩ (fun z78654 F H locs hT hz78654 => ?_)
  obtain ⟨hz78654, yz78654⟩ := hz78654
  have pf0 := (yz78654.1 _ 3 (Or.inr (by decide)) (Or.inr (by decide))).trans pf0
  have v78652 := (yz78654.1 _ 0 (Or.inr (by decide)) (Or.inr (by decide))).trans v78652
  have hfr : (∀ b j : Nat, (tag b ≠ 46 ∨ j ≠ 0) → (tag b ≠ 46 ∨ j ≠ 1) → (tag b ≠ 46 ∨ j ≠ 2) → (tag b ≠ 46 ∨ j ≠ 21) → fld F b j = fld Fo b j) ∧ (∀ b j : Nat, tag b ≠ 39 → elm F b j = elm Fo b j) := ⟨fun b j n46_0 n46_1 n46_2 n46_21 => (yz78654.1 b j n46_1 n46_2).trans (hfr.1 b j n46_0 n46_1 n46_2 n46_21), fun b j a39 => (yz78654.2 b j ).trans (hfr.2 b j a39)⟩
  exact t_iret hQ X hT (⟨rg_all _, hfr⟩) (Nat.le_of_ble_eq_true rfl) (Nat.le_of_ble_eq_true rfl) dX13_mark_17
theorem kp_X13_mark (l : Launch) (G : KG) (tag : Nat → Nat) (L : List Nat) (Fo : Nat → va_E) (ho : okT G ttC tag L Fo) (p0 : Nat) (m0 : p0 ∈ L) (g0 : tag p0 = 46) : TMi l yX13_mark cX13_mark 2 (some .int) { frames := 1, cells := 0, slots := 0, locals := 21 } G ttC tag L Fo [.ref p0] (fun r F1 => ((-2147483648) ≤ r.toInt ∧ r.toInt ≤ 2147483647) ∧ ((∀ b j : Nat, (tag b ≠ 46 ∨ j ≠ 0) → (tag b ≠ 46 ∨ j ≠ 1) → (tag b ≠ 46 ∨ j ≠ 2) → (tag b ≠ 46 ∨ j ≠ 21) → fld F1 b j = fld Fo b j) ∧ (∀ b j : Nat, tag b ≠ 39 → elm F1 b j = elm Fo b j))) := by
  rcases t_fldn ho m0 g0 rfl 3 rfl with h9 | ⟨b9, h9, m9, t9⟩
  · exact km256_X13_mark l G tag L Fo ho p0  m0 g0 h9 
  · exact km255_X13_mark l G tag L Fo ho p0 b9  m0 g0 m9 (tg_of t9) h9 
set_option maxHeartbeats 4000000 in
set_option maxRecDepth 100000 in
theorem km258_X13_stone (l : Launch) (G : KG) (tag : Nat → Nat) (L : List Nat) (Fo : Nat → va_E) (ho : okT G ttC tag L Fo) (p0 : Nat) (p1 : Int32) (p2 : Int32) (x0 : Nat) (m0 : p0 ∈ L) (g0 : tag p0 = 46) (mx0 : x0 ∈ L) (gx0 : tag x0 = 45) (pf0 : fld Fo p0 3 = .ref x0) : TMi l yX13_stone cX13_stone 3 (some .int) { frames := 1, cells := 0, slots := 0, locals := 22 } G ttC tag L Fo [.ref p0, .int p1, .int p2] (fun r F1 => ((-2147483648) ≤ r.toInt ∧ r.toInt ≤ 2147483647) ∧ ((∀ b j : Nat, (tag b ≠ 46 ∨ j ≠ 0) → (tag b ≠ 46 ∨ j ≠ 1) → (tag b ≠ 46 ∨ j ≠ 2) → fld F1 b j = fld Fo b j) ∧ (∀ b j : Nat, elm F1 b j = elm Fo b j))) := by
  refine t_bodyi (y := yX13_stone) (cd := cX13_stone) (mL := 3) (rt := (some .int)) (rm := { frames := 1, cells := 0, slots := 0, locals := 22 }) (av := [.ref p0, .int p1, .int p2]) (by decide) (Nat.le_of_ble_eq_true rfl) ho ?_
  intro p e s m args below meth c ls A Q hQ X hT hl
  have hx := X.1.1
  have hb := X.1.2.1
  have hl : lv_has ls 3 [(0, .ref p0), (1, .int p1), (2, .int p2)] := hl
  have rp1 := rg_all p1
  have rp2 := rg_all p2
  obtain ⟨F, hFo⟩ : ∃ F : Nat → va_E, F = Fo := ⟨_, rfl⟩
  rw [← hFo] at hT pf0
  have hfr : (∀ b j : Nat, (tag b ≠ 46 ∨ j ≠ 0) → (tag b ≠ 46 ∨ j ≠ 1) → (tag b ≠ 46 ∨ j ≠ 2) → fld F b j = fld Fo b j) ∧ (∀ b j : Nat, elm F b j = elm Fo b j) := by
    rw [hFo]
    exact ⟨by intros; rfl, by intros; rfl⟩
  refine lv_aload_n hx hb dX13_stone_0 rfl (lv_at hl 0 rfl) ?_
  refine lv_iconst (v := 0) hx hb dX13_stone_1 (by decide) ?_
  refine t_put (C := RX13) (T := TX13) (N := 37) (v := .int 0) X hT m0 g0 rfl tyX13 tyX13_ok nmX13 rfl 0 (by decide) qw_140 inlX13 rfl (by first | rfl | decide) (by first | rfl | decide) rfl (⟨_, rfl, (show (-2147483648) ≤ (0 : Int32).toInt from (by decide)), (show (0 : Int32).toInt ≤ 2147483647 from (by decide))⟩) dX13_stone_2 (fun F H locs hT v79227 h1v79227 h2v79227 => ?_)
  have pf0 := (h1v79227 _ _ (Or.inr (by decide))).trans pf0
  have hfr : (∀ b j : Nat, (tag b ≠ 46 ∨ j ≠ 0) → (tag b ≠ 46 ∨ j ≠ 1) → (tag b ≠ 46 ∨ j ≠ 2) → fld F b j = fld Fo b j) ∧ (∀ b j : Nat, elm F b j = elm Fo b j) := ⟨fun b j n46_0 n46_1 n46_2 => (h1v79227 b j (fr_ne g0 n46_0)).trans (hfr.1 b j n46_0 n46_1 n46_2), fun b j  => (h2v79227 b j).trans (hfr.2 b j )⟩
  refine lv_aload_n hx hb dX13_stone_5 rfl (lv_at hl 0 rfl) ?_
  refine lv_iload_n hx hb dX13_stone_6 rfl (lv_at hl 1 rfl) ?_
  refine t_cVi (n := 1) (C := RX13) (T := TX13) (N := 37) (As := [.int p1]) (rest := []) X hT (km150_X13_isStone l G tag L F hT.2.2.2 p0 p1 x0 m0 g0 mx0 gx0 pf0) m0 g0 rfl rfl qw_967 qw_968 qw_969 qw_5 qw_970 ⟨rfl, by decide +kernel, by decide +kernel, by decide +kernel⟩ ⟨Nat.le_of_ble_eq_true rfl, Nat.le_of_ble_eq_true rfl⟩ hl rfl rfl (Nat.le_of_ble_eq_true rfl) dX13_stone_7 ⟨Nat.le_of_ble_eq_true rfl, Nat.le_of_ble_eq_true rfl⟩ (fun z79228 F9 H locs hT hz79228 => ?_)
  obtain ⟨fz79228, hz79228⟩ := hz79228
  rw [fz79228] at hT
  obtain ⟨hz79228, iz79228⟩ := hz79228
  refine lv_if_eq (tgt := 22) hx hb dX13_stone_10 (by decide) (fun c79229 => ?_) (fun c79229 => ?_)
  · have w79230 := cv_eq (rfl : z79228.toInt = z79228.toInt) (by decide : (0 : Int32).toInt = 0) c79229
    refine lv_aload_n hx hb dX13_stone_22 rfl (lv_at hl 0 rfl) ?_
    refine lv_iconst (v := 1) hx hb dX13_stone_23 (by decide) ?_
    refine t_cVi (n := 1) (C := RX13) (T := TX13) (N := 37) (As := [.int 1]) (rest := []) X hT (km88_X13_refused l G tag L F hT.2.2.2 p0 1 m0 g0) m0 g0 rfl rfl qw_484 qw_485 qw_486 qw_5 qw_487 ⟨rfl, by decide +kernel, by decide +kernel, by decide +kernel⟩ ⟨Nat.le_of_ble_eq_true rfl, Nat.le_of_ble_eq_true rfl⟩ hl rfl rfl (Nat.le_of_ble_eq_true rfl) dX13_stone_24 ⟨Nat.le_of_ble_eq_true rfl, Nat.le_of_ble_eq_true rfl⟩ (fun z79231 F H locs hT hz79231 => ?_)
    obtain ⟨hz79231, yz79231⟩ := hz79231
    have pf0 := (yz79231.1 _ 3 (Or.inr (by decide)) (Or.inr (by decide))).trans pf0
    have v79227 := (yz79231.1 _ 0 (Or.inr (by decide)) (Or.inr (by decide))).trans v79227
    have hfr : (∀ b j : Nat, (tag b ≠ 46 ∨ j ≠ 0) → (tag b ≠ 46 ∨ j ≠ 1) → (tag b ≠ 46 ∨ j ≠ 2) → fld F b j = fld Fo b j) ∧ (∀ b j : Nat, elm F b j = elm Fo b j) := ⟨fun b j n46_0 n46_1 n46_2 => (yz79231.1 b j n46_1 n46_2).trans (hfr.1 b j n46_0 n46_1 n46_2), fun b j  => (yz79231.2 b j ).trans (hfr.2 b j )⟩
    exact t_iret hQ X hT (⟨rg_all _, hfr⟩) (Nat.le_of_ble_eq_true rfl) (Nat.le_of_ble_eq_true rfl) dX13_stone_27
  · have w79232 := cv_ne (rfl : z79228.toInt = z79228.toInt) (by decide : (0 : Int32).toInt = 0) c79229
    have w79233 := (fun h => (iz79228 h)) (by omega)
    refine lv_iload_n hx hb dX13_stone_13 rfl (lv_at hl 2 rfl) ?_
    refine lv_iconst (v := 0) hx hb dX13_stone_14 (by decide) ?_
    refine lv_iconst (v := 4) hx hb dX13_stone_15 (by decide) ?_
    refine t_cSi (n := 3) (As := [.int p2, .int 0, .int 4]) (rest := []) X hT (km19_X13_within l G tag L F hT.2.2.2 p2 0 4 ) qw_568 qw_569 qw_5 qw_570 ⟨by decide +kernel, by decide +kernel, by decide +kernel⟩ ⟨Nat.le_of_ble_eq_true rfl, Nat.le_of_ble_eq_true rfl⟩ hl rfl rfl (Nat.le_of_ble_eq_true rfl) dX13_stone_16 ⟨Nat.le_of_ble_eq_true rfl, Nat.le_of_ble_eq_true rfl⟩ (fun z79234 F9 H locs hT hz79234 => ?_)
    obtain ⟨fz79234, hz79234, xz79234_0⟩ := hz79234
    rw [fz79234] at hT
    have k79235 : (0 : Int32).toInt = 0 := by decide
    have k79236 : (4 : Int32).toInt = 4 := by decide
    refine lv_if_ne (tgt := 28) hx hb dX13_stone_19 (by decide) (fun c79237 => ?_) (fun c79237 => ?_)
    · have w79238 := cv_ne (rfl : z79234.toInt = z79234.toInt) (by decide : (0 : Int32).toInt = 0) c79237
      have w79239 := xz79234_0 (by omega)
      refine lv_iload_n hx hb dX13_stone_28 rfl (lv_at hl 2 rfl) ?_
      by_cases c79240 : p2 = 0
      · have w79241 := cv_eq (rfl : p2.toInt = p2.toInt) (by decide : (0 : Int32).toInt = 0) c79240
        refine lv_tableIn (off := 31) (tgt := 60) hx hb dX13_stone_29 (by rw [c79240]; decide) (by rw [c79240]; decide) (by rw [c79240]; decide) (by decide) ?_
        refine lv_aload_n hx hb dX13_stone_60 rfl (lv_at hl 0 rfl) ?_
        refine lv_aload_n hx hb dX13_stone_61 rfl (lv_at hl 0 rfl) ?_
        refine t_get (C := RX13) (T := TX13) (N := 37) X hT m0 g0 rfl rfl 3 (by decide) qw_481 inlX13 rfl dX13_stone_62 (fun v79242 hv79242 ov79242 => ?_)
        obtain rfl : v79242 = .ref x0 := hv79242.symm.trans pf0
        refine t_getN (C := RX12) (T := TX12) (N := 31) X hT mx0 gx0 rfl rfl 16 (by decide) (List.mem_of_getElem? (i := 20) rfl) inlX12 rfl dX13_stone_65 (fun v79243 hv79243 ov79243 => ?_)
        obtain ⟨b79244, rfl, mb79244, gb79244⟩ := okV_r ov79243
        have gb79244 : tag b79244 = 29 := tg_of gb79244
        refine lv_iload_n hx hb dX13_stone_68 rfl (lv_at hl 1 rfl) ?_
        refine t_ild X hT mb79244 gb79244 rfl (by omega) dX13_stone_69 (fun z79245 vz79245 rz79245 => ?_)
        have rz79245 : (-2147483648) ≤ z79245.toInt ∧ z79245.toInt ≤ 2147483647 := rz79245
        refine t_cVi (n := 1) (C := RX13) (T := TX13) (N := 37) (As := [.int z79245]) (rest := []) X hT (km93_X13_good l G tag L F hT.2.2.2 p0 z79245 m0 g0) m0 g0 rfl rfl qw_687 qw_688 qw_689 qw_5 qw_690 ⟨rfl, by decide +kernel, by decide +kernel, by decide +kernel⟩ ⟨Nat.le_of_ble_eq_true rfl, Nat.le_of_ble_eq_true rfl⟩ hl rfl rfl (Nat.le_of_ble_eq_true rfl) dX13_stone_70 ⟨Nat.le_of_ble_eq_true rfl, Nat.le_of_ble_eq_true rfl⟩ (fun z79246 F H locs hT hz79246 => ?_)
        obtain ⟨hz79246, yz79246⟩ := hz79246
        have pf0 := (yz79246.1 _ 3 (Or.inr (by decide)) (Or.inr (by decide))).trans pf0
        have v79227 := (yz79246.1 _ 0 (Or.inr (by decide)) (Or.inr (by decide))).trans v79227
        have hv79243 := (yz79246.1 _ 16 (Or.inr (by decide)) (Or.inr (by decide))).trans hv79243
        have vz79245 := (yz79246.2 _ _ ).trans vz79245
        have hfr : (∀ b j : Nat, (tag b ≠ 46 ∨ j ≠ 0) → (tag b ≠ 46 ∨ j ≠ 1) → (tag b ≠ 46 ∨ j ≠ 2) → fld F b j = fld Fo b j) ∧ (∀ b j : Nat, elm F b j = elm Fo b j) := ⟨fun b j n46_0 n46_1 n46_2 => (yz79246.1 b j n46_1 n46_2).trans (hfr.1 b j n46_0 n46_1 n46_2), fun b j  => (yz79246.2 b j ).trans (hfr.2 b j )⟩
        exact t_iret hQ X hT (⟨rg_all _, hfr⟩) (Nat.le_of_ble_eq_true rfl) (Nat.le_of_ble_eq_true rfl) dX13_stone_73
      have w79247 := cv_ne (rfl : p2.toInt = p2.toInt) (by decide : (0 : Int32).toInt = 0) c79240
      by_cases c79248 : p2 = 1
      · have w79249 := cv_eq (rfl : p2.toInt = p2.toInt) (by decide : (1 : Int32).toInt = 1) c79248
        refine lv_tableIn (off := 45) (tgt := 74) hx hb dX13_stone_29 (by rw [c79248]; decide) (by rw [c79248]; decide) (by rw [c79248]; decide) (by decide) ?_
        refine lv_aload_n hx hb dX13_stone_74 rfl (lv_at hl 0 rfl) ?_
        refine lv_aload_n hx hb dX13_stone_75 rfl (lv_at hl 0 rfl) ?_
        refine t_get (C := RX13) (T := TX13) (N := 37) X hT m0 g0 rfl rfl 3 (by decide) qw_481 inlX13 rfl dX13_stone_76 (fun v79250 hv79250 ov79250 => ?_)
        obtain rfl : v79250 = .ref x0 := hv79250.symm.trans pf0
        refine t_getN (C := RX12) (T := TX12) (N := 31) X hT mx0 gx0 rfl rfl 17 (by decide) (List.mem_of_getElem? (i := 21) rfl) inlX12 rfl dX13_stone_79 (fun v79251 hv79251 ov79251 => ?_)
        obtain ⟨b79252, rfl, mb79252, gb79252⟩ := okV_r ov79251
        have gb79252 : tag b79252 = 29 := tg_of gb79252
        refine lv_iload_n hx hb dX13_stone_82 rfl (lv_at hl 1 rfl) ?_
        refine t_ild X hT mb79252 gb79252 rfl (by omega) dX13_stone_83 (fun z79253 vz79253 rz79253 => ?_)
        have rz79253 : (-2147483648) ≤ z79253.toInt ∧ z79253.toInt ≤ 2147483647 := rz79253
        refine t_cVi (n := 1) (C := RX13) (T := TX13) (N := 37) (As := [.int z79253]) (rest := []) X hT (km93_X13_good l G tag L F hT.2.2.2 p0 z79253 m0 g0) m0 g0 rfl rfl qw_687 qw_688 qw_689 qw_5 qw_690 ⟨rfl, by decide +kernel, by decide +kernel, by decide +kernel⟩ ⟨Nat.le_of_ble_eq_true rfl, Nat.le_of_ble_eq_true rfl⟩ hl rfl rfl (Nat.le_of_ble_eq_true rfl) dX13_stone_84 ⟨Nat.le_of_ble_eq_true rfl, Nat.le_of_ble_eq_true rfl⟩ (fun z79254 F H locs hT hz79254 => ?_)
        obtain ⟨hz79254, yz79254⟩ := hz79254
        have pf0 := (yz79254.1 _ 3 (Or.inr (by decide)) (Or.inr (by decide))).trans pf0
        have v79227 := (yz79254.1 _ 0 (Or.inr (by decide)) (Or.inr (by decide))).trans v79227
        have hv79251 := (yz79254.1 _ 17 (Or.inr (by decide)) (Or.inr (by decide))).trans hv79251
        have vz79253 := (yz79254.2 _ _ ).trans vz79253
        have hfr : (∀ b j : Nat, (tag b ≠ 46 ∨ j ≠ 0) → (tag b ≠ 46 ∨ j ≠ 1) → (tag b ≠ 46 ∨ j ≠ 2) → fld F b j = fld Fo b j) ∧ (∀ b j : Nat, elm F b j = elm Fo b j) := ⟨fun b j n46_0 n46_1 n46_2 => (yz79254.1 b j n46_1 n46_2).trans (hfr.1 b j n46_0 n46_1 n46_2), fun b j  => (yz79254.2 b j ).trans (hfr.2 b j )⟩
        exact t_iret hQ X hT (⟨rg_all _, hfr⟩) (Nat.le_of_ble_eq_true rfl) (Nat.le_of_ble_eq_true rfl) dX13_stone_87
      have w79255 := cv_ne (rfl : p2.toInt = p2.toInt) (by decide : (1 : Int32).toInt = 1) c79248
      by_cases c79256 : p2 = 2
      · have w79257 := cv_eq (rfl : p2.toInt = p2.toInt) (by decide : (2 : Int32).toInt = 2) c79256
        refine lv_tableIn (off := 59) (tgt := 88) hx hb dX13_stone_29 (by rw [c79256]; decide) (by rw [c79256]; decide) (by rw [c79256]; decide) (by decide) ?_
        refine lv_aload_n hx hb dX13_stone_88 rfl (lv_at hl 0 rfl) ?_
        refine lv_aload_n hx hb dX13_stone_89 rfl (lv_at hl 0 rfl) ?_
        refine t_get (C := RX13) (T := TX13) (N := 37) X hT m0 g0 rfl rfl 3 (by decide) qw_481 inlX13 rfl dX13_stone_90 (fun v79258 hv79258 ov79258 => ?_)
        obtain rfl : v79258 = .ref x0 := hv79258.symm.trans pf0
        refine t_getN (C := RX12) (T := TX12) (N := 31) X hT mx0 gx0 rfl rfl 18 (by decide) (List.mem_of_getElem? (i := 22) rfl) inlX12 rfl dX13_stone_93 (fun v79259 hv79259 ov79259 => ?_)
        obtain ⟨b79260, rfl, mb79260, gb79260⟩ := okV_r ov79259
        have gb79260 : tag b79260 = 29 := tg_of gb79260
        refine lv_iload_n hx hb dX13_stone_96 rfl (lv_at hl 1 rfl) ?_
        refine t_ild X hT mb79260 gb79260 rfl (by omega) dX13_stone_97 (fun z79261 vz79261 rz79261 => ?_)
        have rz79261 : (-2147483648) ≤ z79261.toInt ∧ z79261.toInt ≤ 2147483647 := rz79261
        refine t_cVi (n := 1) (C := RX13) (T := TX13) (N := 37) (As := [.int z79261]) (rest := []) X hT (km93_X13_good l G tag L F hT.2.2.2 p0 z79261 m0 g0) m0 g0 rfl rfl qw_687 qw_688 qw_689 qw_5 qw_690 ⟨rfl, by decide +kernel, by decide +kernel, by decide +kernel⟩ ⟨Nat.le_of_ble_eq_true rfl, Nat.le_of_ble_eq_true rfl⟩ hl rfl rfl (Nat.le_of_ble_eq_true rfl) dX13_stone_98 ⟨Nat.le_of_ble_eq_true rfl, Nat.le_of_ble_eq_true rfl⟩ (fun z79262 F H locs hT hz79262 => ?_)
        obtain ⟨hz79262, yz79262⟩ := hz79262
        have pf0 := (yz79262.1 _ 3 (Or.inr (by decide)) (Or.inr (by decide))).trans pf0
        have v79227 := (yz79262.1 _ 0 (Or.inr (by decide)) (Or.inr (by decide))).trans v79227
        have hv79259 := (yz79262.1 _ 18 (Or.inr (by decide)) (Or.inr (by decide))).trans hv79259
        have vz79261 := (yz79262.2 _ _ ).trans vz79261
        have hfr : (∀ b j : Nat, (tag b ≠ 46 ∨ j ≠ 0) → (tag b ≠ 46 ∨ j ≠ 1) → (tag b ≠ 46 ∨ j ≠ 2) → fld F b j = fld Fo b j) ∧ (∀ b j : Nat, elm F b j = elm Fo b j) := ⟨fun b j n46_0 n46_1 n46_2 => (yz79262.1 b j n46_1 n46_2).trans (hfr.1 b j n46_0 n46_1 n46_2), fun b j  => (yz79262.2 b j ).trans (hfr.2 b j )⟩
        exact t_iret hQ X hT (⟨rg_all _, hfr⟩) (Nat.le_of_ble_eq_true rfl) (Nat.le_of_ble_eq_true rfl) dX13_stone_101
      have w79263 := cv_ne (rfl : p2.toInt = p2.toInt) (by decide : (2 : Int32).toInt = 2) c79256
      by_cases c79264 : p2 = 3
      · have w79265 := cv_eq (rfl : p2.toInt = p2.toInt) (by decide : (3 : Int32).toInt = 3) c79264
        refine lv_tableIn (off := 73) (tgt := 102) hx hb dX13_stone_29 (by rw [c79264]; decide) (by rw [c79264]; decide) (by rw [c79264]; decide) (by decide) ?_
        refine lv_aload_n hx hb dX13_stone_102 rfl (lv_at hl 0 rfl) ?_
        refine lv_aload_n hx hb dX13_stone_103 rfl (lv_at hl 0 rfl) ?_
        refine t_get (C := RX13) (T := TX13) (N := 37) X hT m0 g0 rfl rfl 3 (by decide) qw_481 inlX13 rfl dX13_stone_104 (fun v79266 hv79266 ov79266 => ?_)
        obtain rfl : v79266 = .ref x0 := hv79266.symm.trans pf0
        refine t_getN (C := RX12) (T := TX12) (N := 31) X hT mx0 gx0 rfl rfl 19 (by decide) (List.mem_of_getElem? (i := 23) rfl) inlX12 rfl dX13_stone_107 (fun v79267 hv79267 ov79267 => ?_)
        obtain ⟨b79268, rfl, mb79268, gb79268⟩ := okV_r ov79267
        have gb79268 : tag b79268 = 29 := tg_of gb79268
        refine lv_iload_n hx hb dX13_stone_110 rfl (lv_at hl 1 rfl) ?_
        refine t_ild X hT mb79268 gb79268 rfl (by omega) dX13_stone_111 (fun z79269 vz79269 rz79269 => ?_)
        have rz79269 : (-2147483648) ≤ z79269.toInt ∧ z79269.toInt ≤ 2147483647 := rz79269
        refine t_cVi (n := 1) (C := RX13) (T := TX13) (N := 37) (As := [.int z79269]) (rest := []) X hT (km93_X13_good l G tag L F hT.2.2.2 p0 z79269 m0 g0) m0 g0 rfl rfl qw_687 qw_688 qw_689 qw_5 qw_690 ⟨rfl, by decide +kernel, by decide +kernel, by decide +kernel⟩ ⟨Nat.le_of_ble_eq_true rfl, Nat.le_of_ble_eq_true rfl⟩ hl rfl rfl (Nat.le_of_ble_eq_true rfl) dX13_stone_112 ⟨Nat.le_of_ble_eq_true rfl, Nat.le_of_ble_eq_true rfl⟩ (fun z79270 F H locs hT hz79270 => ?_)
        obtain ⟨hz79270, yz79270⟩ := hz79270
        have pf0 := (yz79270.1 _ 3 (Or.inr (by decide)) (Or.inr (by decide))).trans pf0
        have v79227 := (yz79270.1 _ 0 (Or.inr (by decide)) (Or.inr (by decide))).trans v79227
        have hv79267 := (yz79270.1 _ 19 (Or.inr (by decide)) (Or.inr (by decide))).trans hv79267
        have vz79269 := (yz79270.2 _ _ ).trans vz79269
        have hfr : (∀ b j : Nat, (tag b ≠ 46 ∨ j ≠ 0) → (tag b ≠ 46 ∨ j ≠ 1) → (tag b ≠ 46 ∨ j ≠ 2) → fld F b j = fld Fo b j) ∧ (∀ b j : Nat, elm F b j = elm Fo b j) := ⟨fun b j n46_0 n46_1 n46_2 => (yz79270.1 b j n46_1 n46_2).trans (hfr.1 b j n46_0 n46_1 n46_2), fun b j  => (yz79270.2 b j ).trans (hfr.2 b j )⟩
        exact t_iret hQ X hT (⟨rg_all _, hfr⟩) (Nat.le_of_ble_eq_true rfl) (Nat.le_of_ble_eq_true rfl) dX13_stone_115
      have w79271 := cv_ne (rfl : p2.toInt = p2.toInt) (by decide : (3 : Int32).toInt = 3) c79264
      refine lv_tableOut (tgt := 116) hx hb dX13_stone_29 (by omega) (by decide) ?_
      refine lv_aload_n hx hb dX13_stone_116 rfl (lv_at hl 0 rfl) ?_
      refine lv_aload_n hx hb dX13_stone_117 rfl (lv_at hl 0 rfl) ?_
      refine t_get (C := RX13) (T := TX13) (N := 37) X hT m0 g0 rfl rfl 3 (by decide) qw_481 inlX13 rfl dX13_stone_118 (fun v79272 hv79272 ov79272 => ?_)
      obtain rfl : v79272 = .ref x0 := hv79272.symm.trans pf0
      refine t_getN (C := RX12) (T := TX12) (N := 31) X hT mx0 gx0 rfl rfl 20 (by decide) (List.mem_of_getElem? (i := 24) rfl) inlX12 rfl dX13_stone_121 (fun v79273 hv79273 ov79273 => ?_)
      obtain ⟨b79274, rfl, mb79274, gb79274⟩ := okV_r ov79273
      have gb79274 : tag b79274 = 29 := tg_of gb79274
      refine lv_iload_n hx hb dX13_stone_124 rfl (lv_at hl 1 rfl) ?_
      refine t_ild X hT mb79274 gb79274 rfl (by omega) dX13_stone_125 (fun z79275 vz79275 rz79275 => ?_)
      have rz79275 : (-2147483648) ≤ z79275.toInt ∧ z79275.toInt ≤ 2147483647 := rz79275
      refine t_cVi (n := 1) (C := RX13) (T := TX13) (N := 37) (As := [.int z79275]) (rest := []) X hT (km93_X13_good l G tag L F hT.2.2.2 p0 z79275 m0 g0) m0 g0 rfl rfl qw_687 qw_688 qw_689 qw_5 qw_690 ⟨rfl, by decide +kernel, by decide +kernel, by decide +kernel⟩ ⟨Nat.le_of_ble_eq_true rfl, Nat.le_of_ble_eq_true rfl⟩ hl rfl rfl (Nat.le_of_ble_eq_true rfl) dX13_stone_126 ⟨Nat.le_of_ble_eq_true rfl, Nat.le_of_ble_eq_true rfl⟩ (fun z79276 F H locs hT hz79276 => ?_)
      obtain ⟨hz79276, yz79276⟩ := hz79276
      have pf0 := (yz79276.1 _ 3 (Or.inr (by decide)) (Or.inr (by decide))).trans pf0
      have v79227 := (yz79276.1 _ 0 (Or.inr (by decide)) (Or.inr (by decide))).trans v79227
      have hv79273 := (yz79276.1 _ 20 (Or.inr (by decide)) (Or.inr (by decide))).trans hv79273
      have vz79275 := (yz79276.2 _ _ ).trans vz79275
      have hfr : (∀ b j : Nat, (tag b ≠ 46 ∨ j ≠ 0) → (tag b ≠ 46 ∨ j ≠ 1) → (tag b ≠ 46 ∨ j ≠ 2) → fld F b j = fld Fo b j) ∧ (∀ b j : Nat, elm F b j = elm Fo b j) := ⟨fun b j n46_0 n46_1 n46_2 => (yz79276.1 b j n46_1 n46_2).trans (hfr.1 b j n46_0 n46_1 n46_2), fun b j  => (yz79276.2 b j ).trans (hfr.2 b j )⟩
      exact t_iret hQ X hT (⟨rg_all _, hfr⟩) (Nat.le_of_ble_eq_true rfl) (Nat.le_of_ble_eq_true rfl) dX13_stone_129
    · have w79277 := cv_eq (rfl : z79234.toInt = z79234.toInt) (by decide : (0 : Int32).toInt = 0) c79237
      refine lv_aload_n hx hb dX13_stone_22 rfl (lv_at hl 0 rfl) ?_
      refine lv_iconst (v := 1) hx hb dX13_stone_23 (by decide) ?_
      refine t_cVi (n := 1) (C := RX13) (T := TX13) (N := 37) (As := [.int 1]) (rest := []) X hT (km88_X13_refused l G tag L F hT.2.2.2 p0 1 m0 g0) m0 g0 rfl rfl qw_484 qw_485 qw_486 qw_5 qw_487 ⟨rfl, by decide +kernel, by decide +kernel, by decide +kernel⟩ ⟨Nat.le_of_ble_eq_true rfl, Nat.le_of_ble_eq_true rfl⟩ hl rfl rfl (Nat.le_of_ble_eq_true rfl) dX13_stone_24 ⟨Nat.le_of_ble_eq_true rfl, Nat.le_of_ble_eq_true rfl⟩ (fun z79278 F H locs hT hz79278 => ?_)
      obtain ⟨hz79278, yz79278⟩ := hz79278
      have pf0 := (yz79278.1 _ 3 (Or.inr (by decide)) (Or.inr (by decide))).trans pf0
      have v79227 := (yz79278.1 _ 0 (Or.inr (by decide)) (Or.inr (by decide))).trans v79227
      have hfr : (∀ b j : Nat, (tag b ≠ 46 ∨ j ≠ 0) → (tag b ≠ 46 ∨ j ≠ 1) → (tag b ≠ 46 ∨ j ≠ 2) → fld F b j = fld Fo b j) ∧ (∀ b j : Nat, elm F b j = elm Fo b j) := ⟨fun b j n46_0 n46_1 n46_2 => (yz79278.1 b j n46_1 n46_2).trans (hfr.1 b j n46_0 n46_1 n46_2), fun b j  => (yz79278.2 b j ).trans (hfr.2 b j )⟩
      exact t_iret hQ X hT (⟨rg_all _, hfr⟩) (Nat.le_of_ble_eq_true rfl) (Nat.le_of_ble_eq_true rfl) dX13_stone_27
set_option maxHeartbeats 4000000 in
set_option maxRecDepth 100000 in
theorem km259_X13_isStone (l : Launch) (G : KG) (tag : Nat → Nat) (L : List Nat) (F : Nat → va_E) (ho : okT G ttC tag L F) (p0 : Nat) (p1 : Int32) (m0 : p0 ∈ L) (g0 : tag p0 = 46) (pf0 : fld F p0 3 = .null) : TMi l yX13_isStone cX13_isStone 2 (some .boolean) { frames := 0, cells := 0, slots := 0, locals := 0 } G ttC tag L F [.ref p0, .int p1] (fun r F1 => F1 = F ∧ (0 ≤ r.toInt ∧ r.toInt ≤ 0)) := by
  refine t_bodyi (y := yX13_isStone) (cd := cX13_isStone) (mL := 2) (rt := (some .boolean)) (rm := { frames := 0, cells := 0, slots := 0, locals := 0 }) (av := [.ref p0, .int p1]) (by decide) (Nat.le_of_ble_eq_true rfl) ho ?_
  intro p e s m args below meth c ls A Q hQ X hT hl
  have hx := X.1.1
  have hb := X.1.2.1
  have hl : lv_has ls 2 [(0, .ref p0), (1, .int p1)] := hl
  have rp1 := rg_all p1
  refine lv_aload_n hx hb dX13_isStone_0 rfl (lv_at hl 0 rfl) ?_
  refine t_get (C := RX13) (T := TX13) (N := 37) X hT m0 g0 rfl rfl 3 (by decide) qw_481 inlX13 rfl dX13_isStone_1 (fun v79291 hv79291 ov79291 => ?_)
  obtain rfl : v79291 = .null := hv79291.symm.trans pf0
  refine lv_ifnullN (tgt := 26) hx hb dX13_isStone_4 (by decide) ?_
  refine lv_iconst (v := 0) hx hb dX13_isStone_26 (by decide) ?_
  have k79292 : (0 : Int32).toInt = 0 := by decide
  exact t_zret hQ X hT (by decide) (⟨rfl, (by decide)⟩) (Nat.le_of_ble_eq_true rfl) (Nat.le_of_ble_eq_true rfl) dX13_isStone_27
set_option maxHeartbeats 4000000 in
set_option maxRecDepth 100000 in
theorem km260_X13_stone (l : Launch) (G : KG) (tag : Nat → Nat) (L : List Nat) (Fo : Nat → va_E) (ho : okT G ttC tag L Fo) (p0 : Nat) (p1 : Int32) (p2 : Int32) (m0 : p0 ∈ L) (g0 : tag p0 = 46) (pf0 : fld Fo p0 3 = .null) : TMi l yX13_stone cX13_stone 3 (some .int) { frames := 1, cells := 0, slots := 0, locals := 22 } G ttC tag L Fo [.ref p0, .int p1, .int p2] (fun r F1 => ((-2147483648) ≤ r.toInt ∧ r.toInt ≤ 2147483647) ∧ ((∀ b j : Nat, (tag b ≠ 46 ∨ j ≠ 0) → (tag b ≠ 46 ∨ j ≠ 1) → (tag b ≠ 46 ∨ j ≠ 2) → fld F1 b j = fld Fo b j) ∧ (∀ b j : Nat, elm F1 b j = elm Fo b j))) := by
  refine t_bodyi (y := yX13_stone) (cd := cX13_stone) (mL := 3) (rt := (some .int)) (rm := { frames := 1, cells := 0, slots := 0, locals := 22 }) (av := [.ref p0, .int p1, .int p2]) (by decide) (Nat.le_of_ble_eq_true rfl) ho ?_
  intro p e s m args below meth c ls A Q hQ X hT hl
  have hx := X.1.1
  have hb := X.1.2.1
  have hl : lv_has ls 3 [(0, .ref p0), (1, .int p1), (2, .int p2)] := hl
  have rp1 := rg_all p1
  have rp2 := rg_all p2
  obtain ⟨F, hFo⟩ : ∃ F : Nat → va_E, F = Fo := ⟨_, rfl⟩
  rw [← hFo] at hT pf0
  have hfr : (∀ b j : Nat, (tag b ≠ 46 ∨ j ≠ 0) → (tag b ≠ 46 ∨ j ≠ 1) → (tag b ≠ 46 ∨ j ≠ 2) → fld F b j = fld Fo b j) ∧ (∀ b j : Nat, elm F b j = elm Fo b j) := by
    rw [hFo]
    exact ⟨by intros; rfl, by intros; rfl⟩
  refine lv_aload_n hx hb dX13_stone_0 rfl (lv_at hl 0 rfl) ?_
  refine lv_iconst (v := 0) hx hb dX13_stone_1 (by decide) ?_
  refine t_put (C := RX13) (T := TX13) (N := 37) (v := .int 0) X hT m0 g0 rfl tyX13 tyX13_ok nmX13 rfl 0 (by decide) qw_140 inlX13 rfl (by first | rfl | decide) (by first | rfl | decide) rfl (⟨_, rfl, (show (-2147483648) ≤ (0 : Int32).toInt from (by decide)), (show (0 : Int32).toInt ≤ 2147483647 from (by decide))⟩) dX13_stone_2 (fun F H locs hT v79358 h1v79358 h2v79358 => ?_)
  have pf0 := (h1v79358 _ _ (Or.inr (by decide))).trans pf0
  have hfr : (∀ b j : Nat, (tag b ≠ 46 ∨ j ≠ 0) → (tag b ≠ 46 ∨ j ≠ 1) → (tag b ≠ 46 ∨ j ≠ 2) → fld F b j = fld Fo b j) ∧ (∀ b j : Nat, elm F b j = elm Fo b j) := ⟨fun b j n46_0 n46_1 n46_2 => (h1v79358 b j (fr_ne g0 n46_0)).trans (hfr.1 b j n46_0 n46_1 n46_2), fun b j  => (h2v79358 b j).trans (hfr.2 b j )⟩
  refine lv_aload_n hx hb dX13_stone_5 rfl (lv_at hl 0 rfl) ?_
  refine lv_iload_n hx hb dX13_stone_6 rfl (lv_at hl 1 rfl) ?_
  refine t_cVi (n := 1) (C := RX13) (T := TX13) (N := 37) (As := [.int p1]) (rest := []) X hT (km259_X13_isStone l G tag L F hT.2.2.2 p0 p1 m0 g0 pf0) m0 g0 rfl rfl qw_967 qw_968 qw_969 qw_5 qw_970 ⟨rfl, by decide +kernel, by decide +kernel, by decide +kernel⟩ ⟨Nat.le_of_ble_eq_true rfl, Nat.le_of_ble_eq_true rfl⟩ hl rfl rfl (Nat.le_of_ble_eq_true rfl) dX13_stone_7 ⟨Nat.le_of_ble_eq_true rfl, Nat.le_of_ble_eq_true rfl⟩ (fun z79359 F9 H locs hT hz79359 => ?_)
  obtain ⟨fz79359, hz79359⟩ := hz79359
  rw [fz79359] at hT
  refine lv_if_eq (tgt := 22) hx hb dX13_stone_10 (by decide) (fun c79360 => ?_) (fun c79360 => ?_)
  · have w79361 := cv_eq (rfl : z79359.toInt = z79359.toInt) (by decide : (0 : Int32).toInt = 0) c79360
    refine lv_aload_n hx hb dX13_stone_22 rfl (lv_at hl 0 rfl) ?_
    refine lv_iconst (v := 1) hx hb dX13_stone_23 (by decide) ?_
    refine t_cVi (n := 1) (C := RX13) (T := TX13) (N := 37) (As := [.int 1]) (rest := []) X hT (km88_X13_refused l G tag L F hT.2.2.2 p0 1 m0 g0) m0 g0 rfl rfl qw_484 qw_485 qw_486 qw_5 qw_487 ⟨rfl, by decide +kernel, by decide +kernel, by decide +kernel⟩ ⟨Nat.le_of_ble_eq_true rfl, Nat.le_of_ble_eq_true rfl⟩ hl rfl rfl (Nat.le_of_ble_eq_true rfl) dX13_stone_24 ⟨Nat.le_of_ble_eq_true rfl, Nat.le_of_ble_eq_true rfl⟩ (fun z79362 F H locs hT hz79362 => ?_)
    obtain ⟨hz79362, yz79362⟩ := hz79362
    have pf0 := (yz79362.1 _ 3 (Or.inr (by decide)) (Or.inr (by decide))).trans pf0
    have v79358 := (yz79362.1 _ 0 (Or.inr (by decide)) (Or.inr (by decide))).trans v79358
    have hfr : (∀ b j : Nat, (tag b ≠ 46 ∨ j ≠ 0) → (tag b ≠ 46 ∨ j ≠ 1) → (tag b ≠ 46 ∨ j ≠ 2) → fld F b j = fld Fo b j) ∧ (∀ b j : Nat, elm F b j = elm Fo b j) := ⟨fun b j n46_0 n46_1 n46_2 => (yz79362.1 b j n46_1 n46_2).trans (hfr.1 b j n46_0 n46_1 n46_2), fun b j  => (yz79362.2 b j ).trans (hfr.2 b j )⟩
    exact t_iret hQ X hT (⟨rg_all _, hfr⟩) (Nat.le_of_ble_eq_true rfl) (Nat.le_of_ble_eq_true rfl) dX13_stone_27
  · have w79363 := cv_ne (rfl : z79359.toInt = z79359.toInt) (by decide : (0 : Int32).toInt = 0) c79360
    exfalso
    omega
theorem kp_X13_stone (l : Launch) (G : KG) (tag : Nat → Nat) (L : List Nat) (Fo : Nat → va_E) (ho : okT G ttC tag L Fo) (p0 : Nat) (p1 : Int32) (p2 : Int32) (m0 : p0 ∈ L) (g0 : tag p0 = 46) : TMi l yX13_stone cX13_stone 3 (some .int) { frames := 1, cells := 0, slots := 0, locals := 22 } G ttC tag L Fo [.ref p0, .int p1, .int p2] (fun r F1 => ((-2147483648) ≤ r.toInt ∧ r.toInt ≤ 2147483647) ∧ ((∀ b j : Nat, (tag b ≠ 46 ∨ j ≠ 0) → (tag b ≠ 46 ∨ j ≠ 1) → (tag b ≠ 46 ∨ j ≠ 2) → fld F1 b j = fld Fo b j) ∧ (∀ b j : Nat, elm F1 b j = elm Fo b j))) := by
  rcases t_fldn ho m0 g0 rfl 3 rfl with h9 | ⟨b9, h9, m9, t9⟩
  · exact km260_X13_stone l G tag L Fo ho p0 p1 p2  m0 g0 h9 
  · exact km258_X13_stone l G tag L Fo ho p0 p1 p2 b9  m0 g0 m9 (tg_of t9) h9 
set_option maxHeartbeats 4000000 in
set_option maxRecDepth 100000 in
theorem km262_X13_led (l : Launch) (G : KG) (tag : Nat → Nat) (L : List Nat) (Fo : Nat → va_E) (ho : okT G ttC tag L Fo) (p0 : Nat) (p1 : Int32) (x0 : Nat) (m0 : p0 ∈ L) (g0 : tag p0 = 46) (mx0 : x0 ∈ L) (gx0 : tag x0 = 45) (pf0 : fld Fo p0 3 = .ref x0) : TMi l yX13_led cX13_led 4 (some .int) { frames := 5, cells := 0, slots := 0, locals := 121 } G ttC tag L Fo [.ref p0, .int p1] (fun r F1 => ((-2147483648) ≤ r.toInt ∧ r.toInt ≤ 2147483647) ∧ ((∀ b j : Nat, (tag b ≠ 46 ∨ j ≠ 0) → fld F1 b j = fld Fo b j) ∧ (∀ b j : Nat, elm F1 b j = elm Fo b j))) := by
  refine t_bodyi (y := yX13_led) (cd := cX13_led) (mL := 4) (rt := (some .int)) (rm := { frames := 5, cells := 0, slots := 0, locals := 121 }) (av := [.ref p0, .int p1]) (by decide) (Nat.le_of_ble_eq_true rfl) ho ?_
  intro p e s m args below meth c ls A Q hQ X hT hl
  have hx := X.1.1
  have hb := X.1.2.1
  have hl : lv_has ls 4 [(0, .ref p0), (1, .int p1)] := hl
  have rp1 := rg_all p1
  obtain ⟨F, hFo⟩ : ∃ F : Nat → va_E, F = Fo := ⟨_, rfl⟩
  rw [← hFo] at hT pf0
  have hfr : (∀ b j : Nat, (tag b ≠ 46 ∨ j ≠ 0) → fld F b j = fld Fo b j) ∧ (∀ b j : Nat, elm F b j = elm Fo b j) := by
    rw [hFo]
    exact ⟨by intros; rfl, by intros; rfl⟩
  have K58 : ∀ (z80418 : Int32) (z80419 : Int32) (z80420 : Int32) (z80421 : Int32) (F : Nat → va_E) (H : Heap) (locs : List Loc) (ls : Array Slot), (0 ≤ z80419.toInt ∧ z80419.toInt ≤ 4) → (0 ≤ z80420.toInt ∧ z80420.toInt ≤ 0) → (0 ≤ z80421.toInt ∧ z80421.toInt ≤ 4) → TH G ttC A s tag L F H locs → ((∀ b j : Nat, (tag b ≠ 46 ∨ j ≠ 0) → fld F b j = fld Fo b j) ∧ (∀ b j : Nat, elm F b j = elm Fo b j)) → (fld F p0 3 = .ref x0) → (fld F p0 0 = .int z80420) → (fld F x0 8 = .int z80421) → lv_has ls 4 [(0, .ref p0), (1, .int p1), (2, .int z80418), (3, .int z80419)] → W p l e { frames := 5, cells := 0, slots := 0, locals := 121 } s m args below meth c H locs 0 0 Q (F0 m 58 ls []) := by
    intro z80418 z80419 z80420 z80421 F H locs ls rz80419 rz80420 rz80421 hT hfr pf0 qz80420 qz80421 hl
    have rz80418 := rg_all z80418
    refine lv_aload_n hx hb dX13_led_58 rfl (lv_at hl 0 rfl) ?_
    refine lv_iconst (v := 1) hx hb dX13_led_59 (by decide) ?_
    refine t_put (C := RX13) (T := TX13) (N := 37) (v := .int 1) X hT m0 g0 rfl tyX13 tyX13_ok nmX13 rfl 0 (by decide) qw_140 inlX13 rfl (by first | rfl | decide) (by first | rfl | decide) rfl (⟨_, rfl, (show (-2147483648) ≤ (1 : Int32).toInt from (by decide)), (show (1 : Int32).toInt ≤ 2147483647 from (by decide))⟩) dX13_led_60 (fun F H locs hT v80422 h1v80422 h2v80422 => ?_)
    have qz80421 := (h1v80422 _ _ (Or.inr (by decide))).trans qz80421
    have pf0 := (h1v80422 _ _ (Or.inr (by decide))).trans pf0
    have hfr : (∀ b j : Nat, (tag b ≠ 46 ∨ j ≠ 0) → fld F b j = fld Fo b j) ∧ (∀ b j : Nat, elm F b j = elm Fo b j) := ⟨fun b j n46_0 => (h1v80422 b j (fr_ne g0 n46_0)).trans (hfr.1 b j n46_0), fun b j  => (h2v80422 b j).trans (hfr.2 b j )⟩
    refine lv_iconst (v := 0) hx hb dX13_led_63 (by decide) ?_
    have k80423 : (0 : Int32).toInt = 0 := by decide
    exact t_iret hQ X hT (⟨rg_all _, hfr⟩) (Nat.le_of_ble_eq_true rfl) (Nat.le_of_ble_eq_true rfl) dX13_led_64
  have K9 : ∀ (n : Nat) (z80424 : Int32) (z80425 : Int32) (z80426 : Int32) (F : Nat → va_E) (H : Heap) (locs : List Loc) (ls : Array Slot), (4 - z80425.toInt < (n : Int)) → (0 ≤ z80425.toInt ∧ z80425.toInt ≤ 4) → (0 ≤ z80426.toInt ∧ z80426.toInt ≤ 0) → TH G ttC A s tag L F H locs → ((∀ b j : Nat, (tag b ≠ 46 ∨ j ≠ 0) → fld F b j = fld Fo b j) ∧ (∀ b j : Nat, elm F b j = elm Fo b j)) → (fld F p0 3 = .ref x0) → (fld F p0 0 = .int z80426) → lv_has ls 4 [(0, .ref p0), (1, .int p1), (2, .int z80424), (3, .int z80425)] → W p l e { frames := 5, cells := 0, slots := 0, locals := 121 } s m args below meth c H locs 0 0 Q (F0 m 9 ls []) := by
    intro n
    induction n with
    | zero =>
      intro z80424 z80425 z80426 F H locs ls hn rz80425 rz80426 hT hfr pf0 qz80426 hl
      have rz80424 := rg_all z80424
      exfalso
      omega
    | succ n ih9 =>
      intro z80424 z80425 z80426 F H locs ls hn rz80425 rz80426 hT hfr pf0 qz80426 hl
      have rz80424 := rg_all z80424
      have K52 : ∀ (z80427 : Int32) (z80429 : Int32) (z80430 : Int32) (F : Nat → va_E) (H : Heap) (locs : List Loc) (ls : Array Slot), (0 ≤ z80429.toInt ∧ z80429.toInt ≤ 0) → (1 ≤ z80430.toInt ∧ z80430.toInt ≤ 4) → (0 ≤ z80425.toInt ∧ z80425.toInt ≤ 3) → TH G ttC A s tag L F H locs → ((∀ b j : Nat, (tag b ≠ 46 ∨ j ≠ 0) → fld F b j = fld Fo b j) ∧ (∀ b j : Nat, elm F b j = elm Fo b j)) → (fld F p0 3 = .ref x0) → (fld F p0 0 = .int z80429) → (fld F x0 8 = .int z80430) → lv_has ls 4 [(0, .ref p0), (1, .int p1), (2, .int z80427), (3, .int z80425)] → W p l e { frames := 5, cells := 0, slots := 0, locals := 121 } s m args below meth c H locs 0 0 Q (F0 m 52 ls []) := by
        intro z80427 z80429 z80430 F H locs ls rz80429 rz80430 r9s80428 hT hfr pf0 qz80429 qz80430 hl
        have rz80427 := rg_all z80427
        obtain ⟨z80431, ez80431⟩ : ∃ y : Int32, y = z80425 + 1 := ⟨_, rfl⟩
        have hz80431 : z80431.toInt = z80425.toInt + 1 := ar_add ez80431 rfl (by decide : (1 : Int32).toInt = 1) (by omega) (by omega)
        refine lv_iinc (v := z80431) (lv' := [(3, .int z80431), (0, .ref p0), (1, .int p1), (2, .int z80427)]) hx hb dX13_led_52 hl (k := 3) rfl (by rw [ez80431]; rfl) (by decide) rfl (fun ls hl => ?_)
        refine lv_goto (tgt := 9) hx hb dX13_led_55 (by decide) ?_
        exact ih9 z80427 z80431 z80429 _ _ _ _ (by omega) (by omega) (by omega) hT hfr pf0 qz80429 (lv_sub hl [1, 2, 3, 0] rfl)
      refine lv_aload_n hx hb dX13_led_9 rfl (lv_at hl 0 rfl) ?_
      refine t_get (C := RX13) (T := TX13) (N := 37) X hT m0 g0 rfl rfl 3 (by decide) qw_481 inlX13 rfl dX13_led_10 (fun v80432 hv80432 ov80432 => ?_)
      obtain rfl : v80432 = .ref x0 := hv80432.symm.trans pf0
      refine lv_ifnull hx hb dX13_led_13 ?_
      refine lv_iload_n hx hb dX13_led_16 rfl (lv_at hl 3 rfl) ?_
      refine lv_aload_n hx hb dX13_led_17 rfl (lv_at hl 0 rfl) ?_
      refine t_get (C := RX13) (T := TX13) (N := 37) X hT m0 g0 rfl rfl 3 (by decide) qw_481 inlX13 rfl dX13_led_18 (fun v80433 hv80433 ov80433 => ?_)
      obtain rfl : v80433 = .ref x0 := hv80433.symm.trans pf0
      refine t_getN (C := RX12) (T := TX12) (N := 31) X hT mx0 gx0 rfl rfl 8 (by decide) (List.mem_of_getElem? (i := 12) rfl) inlX12 rfl dX13_led_21 (fun v80434 hv80434 ov80434 => ?_)
      obtain ⟨z80435, rfl, rz80435⟩ := okV_i ov80434
      refine lv_icmp_ge (tgt := 58) hx hb dX13_led_24 (by decide) (fun c80436 => ?_) (fun c80436 => ?_)
      · have w80437 := cv_le (rfl : z80435.toInt = z80435.toInt) (rfl : z80425.toInt = z80425.toInt) c80436
        exact K58 z80424 z80425 z80426 z80435 _ _ _ _ (by omega) (by omega) (by omega) hT hfr pf0 qz80426 hv80434 (lv_sub hl [0, 1, 2, 3] rfl)
      · have w80438 := cv_nle (rfl : z80435.toInt = z80435.toInt) (rfl : z80425.toInt = z80425.toInt) c80436
        refine lv_aload_n hx hb dX13_led_27 rfl (lv_at hl 0 rfl) ?_
        refine lv_aload_n hx hb dX13_led_28 rfl (lv_at hl 0 rfl) ?_
        refine t_get (C := RX13) (T := TX13) (N := 37) X hT m0 g0 rfl rfl 16 (by decide) qw_112 inlX13 rfl dX13_led_29 (fun v80439 hv80439 ov80439 => ?_)
        obtain ⟨b80440, rfl, mb80440, gb80440⟩ := okV_r ov80439
        have gb80440 : tag b80440 = 37 := tg_of gb80440
        refine lv_iload_n hx hb dX13_led_32 rfl (lv_at hl 3 rfl) ?_
        refine t_cVi (n := 2) (C := RX13) (T := TX13) (N := 37) (As := [.ref b80440, .int z80425]) (rest := []) X hT (km114_X13_isShut l G tag L F hT.2.2.2 p0 b80440 z80425 x0 m0 g0 mb80440 gb80440 (by omega) mx0 gx0 pf0) m0 g0 rfl rfl qw_800 qw_801 qw_802 qw_5 qw_803 ⟨rfl, by decide +kernel, by decide +kernel, by decide +kernel⟩ ⟨Nat.le_of_ble_eq_true rfl, Nat.le_of_ble_eq_true rfl⟩ hl rfl rfl (Nat.le_of_ble_eq_true rfl) dX13_led_33 ⟨Nat.le_of_ble_eq_true rfl, Nat.le_of_ble_eq_true rfl⟩ (fun z80441 F9 H locs hT hz80441 => ?_)
        obtain ⟨fz80441, hz80441⟩ := hz80441
        rw [fz80441] at hT
        refine lv_if_ne (tgt := 42) hx hb dX13_led_36 (by decide) (fun c80442 => ?_) (fun c80442 => ?_)
        · have w80443 := cv_ne (rfl : z80441.toInt = z80441.toInt) (by decide : (0 : Int32).toInt = 0) c80442
          refine lv_iload_n hx hb dX13_led_42 rfl (lv_at hl 2 rfl) ?_
          refine lv_iload_n hx hb dX13_led_43 rfl (lv_at hl 1 rfl) ?_
          refine lv_icmp_ne (tgt := 49) hx hb dX13_led_44 (by decide) (fun c80444 => ?_) (fun c80444 => ?_)
          · have w80445 := cv_ne (rfl : z80424.toInt = z80424.toInt) (rfl : p1.toInt = p1.toInt) c80444
            obtain ⟨z80446, ez80446⟩ : ∃ y : Int32, y = z80424 + 1 := ⟨_, rfl⟩
            have rz80446 := rg_all z80446
            refine lv_iinc (v := z80446) (lv' := [(2, .int z80446), (0, .ref p0), (1, .int p1), (3, .int z80425)]) hx hb dX13_led_49 hl (k := 2) rfl (by rw [ez80446]; rfl) (by decide) rfl (fun ls hl => ?_)
            exact K52 z80446 z80426 z80435 _ _ _ _ (by omega) (by omega) (by omega) hT hfr pf0 qz80426 hv80434 (lv_sub hl [1, 2, 0, 3] rfl)
          · have w80447 := cv_eq (rfl : z80424.toInt = z80424.toInt) (rfl : p1.toInt = p1.toInt) c80444
            refine lv_iload_n hx hb dX13_led_47 rfl (lv_at hl 3 rfl) ?_
            exact t_iret hQ X hT (⟨rg_all _, hfr⟩) (Nat.le_of_ble_eq_true rfl) (Nat.le_of_ble_eq_true rfl) dX13_led_48
        · have w80448 := cv_eq (rfl : z80441.toInt = z80441.toInt) (by decide : (0 : Int32).toInt = 0) c80442
          refine lv_goto (tgt := 52) hx hb dX13_led_39 (by decide) ?_
          exact K52 z80424 z80426 z80435 _ _ _ _ (by omega) (by omega) (by omega) hT hfr pf0 qz80426 hv80434 (lv_sub hl [0, 1, 2, 3] rfl)
  refine lv_aload_n hx hb dX13_led_0 rfl (lv_at hl 0 rfl) ?_
  refine lv_iconst (v := 0) hx hb dX13_led_1 (by decide) ?_
  refine t_put (C := RX13) (T := TX13) (N := 37) (v := .int 0) X hT m0 g0 rfl tyX13 tyX13_ok nmX13 rfl 0 (by decide) qw_140 inlX13 rfl (by first | rfl | decide) (by first | rfl | decide) rfl (⟨_, rfl, (show (-2147483648) ≤ (0 : Int32).toInt from (by decide)), (show (0 : Int32).toInt ≤ 2147483647 from (by decide))⟩) dX13_led_2 (fun F H locs hT v80449 h1v80449 h2v80449 => ?_)
  have pf0 := (h1v80449 _ _ (Or.inr (by decide))).trans pf0
  have hfr : (∀ b j : Nat, (tag b ≠ 46 ∨ j ≠ 0) → fld F b j = fld Fo b j) ∧ (∀ b j : Nat, elm F b j = elm Fo b j) := ⟨fun b j n46_0 => (h1v80449 b j (fr_ne g0 n46_0)).trans (hfr.1 b j n46_0), fun b j  => (h2v80449 b j).trans (hfr.2 b j )⟩
  refine lv_iconst (v := 0) hx hb dX13_led_5 (by decide) ?_
  refine lv_istore_n (lv' := [(2, .int 0), (0, .ref p0), (1, .int p1)]) hx hb dX13_led_6 rfl hl (by decide) rfl (fun ls hl => ?_)
  refine lv_iconst (v := 0) hx hb dX13_led_7 (by decide) ?_
  refine lv_istore_n (lv' := [(3, .int 0), (2, .int 0), (0, .ref p0), (1, .int p1)]) hx hb dX13_led_8 rfl hl (by decide) rfl (fun ls hl => ?_)
  have k80450 : (0 : Int32).toInt = 0 := by decide
  have k80451 : (0 : Int32).toInt = 0 := by decide
  have k80452 : (0 : Int32).toInt = 0 := by decide
  exact K9 5 0 0 0 _ _ _ _ (by omega) (by decide) (by decide) hT hfr pf0 v80449 (lv_sub hl [2, 3, 1, 0] rfl)
