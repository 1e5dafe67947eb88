set_option maxHeartbeats 4000000 in
set_option maxRecDepth 100000 in
theorem km140_X13_fits (l : Launch) (G : KG) (tag : Nat → Nat) (L : List Nat) (Fo : Nat → va_E) (ho : okT G ttC tag L Fo) (p0 : Nat) (p1 : Int32) (m0 : p0 ∈ L) (g0 : tag p0 = 46) (pf0 : fld Fo p0 3 = .null) : TMi l yX13_fits cX13_fits 2 (some .int) { frames := 3, cells := 0, slots := 0, locals := 72 } G ttC tag L Fo [.ref p0, .int p1] (fun r F1 => ((-2147483648) ≤ r.toInt ∧ r.toInt ≤ 2147483647) ∧ ((∀ b j : Nat, (tag b ≠ 46 ∨ j ≠ 0) → (tag b ≠ 46 ∨ j ≠ 1) → (tag b ≠ 46 ∨ j ≠ 2) → fld F1 b j = fld Fo b j) ∧ (∀ b j : Nat, elm F1 b j = elm Fo b j))) := by
  refine t_bodyi (y := yX13_fits) (cd := cX13_fits) (mL := 2) (rt := (some .int)) (rm := { frames := 3, cells := 0, slots := 0, locals := 72 }) (av := [.ref p0, .int p1]) (by decide) (Nat.le_of_ble_eq_true rfl) ho ?_
  intro p e s m args below meth c ls A Q hQ X hT hl
  have hx := X.1.1
  have hb := X.1.2.1
  have hl : lv_has ls 2 [(0, .ref p0), (1, .int p1)] := hl
  have rp1 := rg_all p1
  obtain ⟨F, hFo⟩ : ∃ F : Nat → va_E, F = Fo := ⟨_, rfl⟩
  rw [← hFo] at hT pf0
  have hfr : (∀ b j : Nat, (tag b ≠ 46 ∨ j ≠ 0) → (tag b ≠ 46 ∨ j ≠ 1) → (tag b ≠ 46 ∨ j ≠ 2) → fld F b j = fld Fo b j) ∧ (∀ b j : Nat, elm F b j = elm Fo b j) := by
    rw [hFo]
    exact ⟨by intros; rfl, by intros; rfl⟩
  refine lv_aload_n hx hb dX13_fits_0 rfl (lv_at hl 0 rfl) ?_
  refine lv_iconst (v := 0) hx hb dX13_fits_1 (by decide) ?_
  refine t_put (C := RX13) (T := TX13) (N := 37) (v := .int 0) X hT m0 g0 rfl tyX13 tyX13_ok nmX13 rfl 0 (by decide) qw_140 inlX13 rfl (by first | rfl | decide) (by first | rfl | decide) rfl (⟨_, rfl, (show (-2147483648) ≤ (0 : Int32).toInt from (by decide)), (show (0 : Int32).toInt ≤ 2147483647 from (by decide))⟩) dX13_fits_2 (fun F H locs hT v38572 h1v38572 h2v38572 => ?_)
  have pf0 := (h1v38572 _ _ (Or.inr (by decide))).trans pf0
  have hfr : (∀ b j : Nat, (tag b ≠ 46 ∨ j ≠ 0) → (tag b ≠ 46 ∨ j ≠ 1) → (tag b ≠ 46 ∨ j ≠ 2) → fld F b j = fld Fo b j) ∧ (∀ b j : Nat, elm F b j = elm Fo b j) := ⟨fun b j n46_0 n46_1 n46_2 => (h1v38572 b j (fr_ne g0 n46_0)).trans (hfr.1 b j n46_0 n46_1 n46_2), fun b j  => (h2v38572 b j).trans (hfr.2 b j )⟩
  refine lv_aload_n hx hb dX13_fits_5 rfl (lv_at hl 0 rfl) ?_
  refine lv_iload_n hx hb dX13_fits_6 rfl (lv_at hl 1 rfl) ?_
  refine t_cVi (n := 1) (C := RX13) (T := TX13) (N := 37) (As := [.int p1]) (rest := []) X hT (km116_X13_isHouse l G tag L F hT.2.2.2 p0 p1 m0 g0 pf0) m0 g0 rfl rfl qw_796 qw_797 qw_798 qw_5 qw_799 ⟨rfl, by decide +kernel, by decide +kernel, by decide +kernel⟩ ⟨Nat.le_of_ble_eq_true rfl, Nat.le_of_ble_eq_true rfl⟩ hl rfl rfl (Nat.le_of_ble_eq_true rfl) dX13_fits_7 ⟨Nat.le_of_ble_eq_true rfl, Nat.le_of_ble_eq_true rfl⟩ (fun z38573 F9 H locs hT hz38573 => ?_)
  obtain ⟨fz38573, hz38573⟩ := hz38573
  rw [fz38573] at hT
  refine lv_if_eq (tgt := 53) hx hb dX13_fits_10 (by decide) (fun c38574 => ?_) (fun c38574 => ?_)
  · have w38575 := cv_eq (rfl : z38573.toInt = z38573.toInt) (by decide : (0 : Int32).toInt = 0) c38574
    refine lv_aload_n hx hb dX13_fits_53 rfl (lv_at hl 0 rfl) ?_
    refine lv_iconst (v := 1) hx hb dX13_fits_54 (by decide) ?_
    refine t_cVi (n := 1) (C := RX13) (T := TX13) (N := 37) (As := [.int 1]) (rest := []) X hT (km88_X13_refused l G tag L F hT.2.2.2 p0 1 m0 g0) m0 g0 rfl rfl qw_484 qw_485 qw_486 qw_5 qw_487 ⟨rfl, by decide +kernel, by decide +kernel, by decide +kernel⟩ ⟨Nat.le_of_ble_eq_true rfl, Nat.le_of_ble_eq_true rfl⟩ hl rfl rfl (Nat.le_of_ble_eq_true rfl) dX13_fits_55 ⟨Nat.le_of_ble_eq_true rfl, Nat.le_of_ble_eq_true rfl⟩ (fun z38576 F H locs hT hz38576 => ?_)
    obtain ⟨hz38576, yz38576⟩ := hz38576
    have pf0 := (yz38576.1 _ 3 (Or.inr (by decide)) (Or.inr (by decide))).trans pf0
    have v38572 := (yz38576.1 _ 0 (Or.inr (by decide)) (Or.inr (by decide))).trans v38572
    have hfr : (∀ b j : Nat, (tag b ≠ 46 ∨ j ≠ 0) → (tag b ≠ 46 ∨ j ≠ 1) → (tag b ≠ 46 ∨ j ≠ 2) → fld F b j = fld Fo b j) ∧ (∀ b j : Nat, elm F b j = elm Fo b j) := ⟨fun b j n46_0 n46_1 n46_2 => (yz38576.1 b j n46_1 n46_2).trans (hfr.1 b j n46_0 n46_1 n46_2), fun b j  => (yz38576.2 b j ).trans (hfr.2 b j )⟩
    exact t_iret hQ X hT (⟨rg_all _, hfr⟩) (Nat.le_of_ble_eq_true rfl) (Nat.le_of_ble_eq_true rfl) dX13_fits_58
  · have w38577 := cv_ne (rfl : z38573.toInt = z38573.toInt) (by decide : (0 : Int32).toInt = 0) c38574
    exfalso
    omega
theorem kp_X13_fits (l : Launch) (G : KG) (tag : Nat → Nat) (L : List Nat) (Fo : Nat → va_E) (ho : okT G ttC tag L Fo) (p0 : Nat) (p1 : Int32) (m0 : p0 ∈ L) (g0 : tag p0 = 46) : TMi l yX13_fits cX13_fits 2 (some .int) { frames := 3, cells := 0, slots := 0, locals := 72 } G ttC tag L Fo [.ref p0, .int p1] (fun r F1 => ((-2147483648) ≤ r.toInt ∧ r.toInt ≤ 2147483647) ∧ ((∀ b j : Nat, (tag b ≠ 46 ∨ j ≠ 0) → (tag b ≠ 46 ∨ j ≠ 1) → (tag b ≠ 46 ∨ j ≠ 2) → fld F1 b j = fld Fo b j) ∧ (∀ b j : Nat, elm F1 b j = elm Fo b j))) := by
  rcases t_fldn ho m0 g0 rfl 3 rfl with h9 | ⟨b9, h9, m9, t9⟩
  · exact km140_X13_fits l G tag L Fo ho p0 p1  m0 g0 h9 
  · exact km139_X13_fits l G tag L Fo ho p0 p1 b9  m0 g0 m9 (tg_of t9) h9 
set_option maxHeartbeats 4000000 in
set_option maxRecDepth 100000 in
theorem km142_X13_placeOf (l : Launch) (G : KG) (tag : Nat → Nat) (L : List Nat) (F : Nat → va_E) (ho : okT G ttC tag L F) (p0 : Int32) (p1 : Int32) (p2 : Int32)  : TMi l yX13_placeOf cX13_placeOf 3 (some .int) { frames := 0, cells := 0, slots := 0, locals := 0 } G ttC tag L F [.int p0, .int p1, .int p2] (fun r F1 => F1 = F ∧ ((-2147483648) ≤ r.toInt ∧ r.toInt ≤ 2147483647)) := by
  refine t_bodyi (y := yX13_placeOf) (cd := cX13_placeOf) (mL := 3) (rt := (some .int)) (rm := { frames := 0, cells := 0, slots := 0, locals := 0 }) (av := [.int p0, .int p1, .int p2]) (by decide) (Nat.le_of_ble_eq_true rfl) ho ?_
  intro p e s m args below meth c ls A Q hQ X hT hl
  have hx := X.1.1
  have hb := X.1.2.1
  have hl : lv_has ls 3 [(0, .int p0), (1, .int p1), (2, .int p2)] := hl
  have rp0 := rg_all p0
  have rp1 := rg_all p1
  have rp2 := rg_all p2
  refine lv_iload_n hx hb dX13_placeOf_0 rfl (lv_at hl 2 rfl) ?_
  refine lv_iload_n hx hb dX13_placeOf_1 rfl (lv_at hl 0 rfl) ?_
  refine lv_ineg hx hb dX13_placeOf_2 ?_
  refine lv_topi (fun z38837 ez38837 => ?_)
  have rz38837 := rg_all z38837
  refine lv_icmp_ne (tgt := 10) hx hb dX13_placeOf_3 (by decide) (fun c38838 => ?_) (fun c38838 => ?_)
  · have w38839 := cv_ne (rfl : p2.toInt = p2.toInt) (rfl : z38837.toInt = z38837.toInt) c38838
    refine lv_iload_n hx hb dX13_placeOf_10 rfl (lv_at hl 1 rfl) ?_
    refine lv_iload_n hx hb dX13_placeOf_11 rfl (lv_at hl 0 rfl) ?_
    refine lv_icmp_ne (tgt := 23) hx hb dX13_placeOf_12 (by decide) (fun c38840 => ?_) (fun c38840 => ?_)
    · have w38841 := cv_ne (rfl : p1.toInt = p1.toInt) (rfl : p0.toInt = p0.toInt) c38840
      refine lv_iload_n hx hb dX13_placeOf_23 rfl (lv_at hl 2 rfl) ?_
      refine lv_iload_n hx hb dX13_placeOf_24 rfl (lv_at hl 0 rfl) ?_
      refine lv_icmp_ne (tgt := 38) hx hb dX13_placeOf_25 (by decide) (fun c38842 => ?_) (fun c38842 => ?_)
      · have w38843 := cv_ne (rfl : p2.toInt = p2.toInt) (rfl : p0.toInt = p0.toInt) c38842
        refine lv_bipush (v := 6) hx hb dX13_placeOf_38 (by decide) ?_
        refine lv_iload_n hx hb dX13_placeOf_40 rfl (lv_at hl 0 rfl) ?_
        refine lv_imul hx hb dX13_placeOf_41 ?_
        refine lv_topi (fun z38844 ez38844 => ?_)
        have rz38844 := rg_all z38844
        refine lv_iload_n hx hb dX13_placeOf_42 rfl (lv_at hl 0 rfl) ?_
        refine lv_iadd hx hb dX13_placeOf_43 ?_
        refine lv_topi (fun z38845 ez38845 => ?_)
        have rz38845 := rg_all z38845
        refine lv_iload_n hx hb dX13_placeOf_44 rfl (lv_at hl 2 rfl) ?_
        refine lv_isub hx hb dX13_placeOf_45 ?_
        refine lv_topi (fun z38846 ez38846 => ?_)
        have rz38846 := rg_all z38846
        exact t_iret hQ X hT (⟨rfl, rg_all _⟩) (Nat.le_of_ble_eq_true rfl) (Nat.le_of_ble_eq_true rfl) dX13_placeOf_46
      · have w38847 := cv_eq (rfl : p2.toInt = p2.toInt) (rfl : p0.toInt = p0.toInt) c38842
        refine lv_iconst (v := 4) hx hb dX13_placeOf_28 (by decide) ?_
        refine lv_iload_n hx hb dX13_placeOf_29 rfl (lv_at hl 0 rfl) ?_
        refine lv_imul hx hb dX13_placeOf_30 ?_
        refine lv_topi (fun z38848 ez38848 => ?_)
        have rz38848 := rg_all z38848
        refine lv_iload_n hx hb dX13_placeOf_31 rfl (lv_at hl 0 rfl) ?_
        refine lv_iadd hx hb dX13_placeOf_32 ?_
        refine lv_topi (fun z38849 ez38849 => ?_)
        have rz38849 := rg_all z38849
        refine lv_iload_n hx hb dX13_placeOf_33 rfl (lv_at hl 1 rfl) ?_
        refine lv_isub hx hb dX13_placeOf_34 ?_
        refine lv_topi (fun z38850 ez38850 => ?_)
        have rz38850 := rg_all z38850
        refine lv_goto (tgt := 46) hx hb dX13_placeOf_35 (by decide) ?_
        exact t_iret hQ X hT (⟨rfl, rg_all _⟩) (Nat.le_of_ble_eq_true rfl) (Nat.le_of_ble_eq_true rfl) dX13_placeOf_46
    · have w38851 := cv_eq (rfl : p1.toInt = p1.toInt) (rfl : p0.toInt = p0.toInt) c38840
      refine lv_iconst (v := 2) hx hb dX13_placeOf_15 (by decide) ?_
      refine lv_iload_n hx hb dX13_placeOf_16 rfl (lv_at hl 0 rfl) ?_
      refine lv_imul hx hb dX13_placeOf_17 ?_
      refine lv_topi (fun z38852 ez38852 => ?_)
      have rz38852 := rg_all z38852
      refine lv_iload_n hx hb dX13_placeOf_18 rfl (lv_at hl 2 rfl) ?_
      refine lv_iadd hx hb dX13_placeOf_19 ?_
      refine lv_topi (fun z38853 ez38853 => ?_)
      have rz38853 := rg_all z38853
      refine lv_iload_n hx hb dX13_placeOf_20 rfl (lv_at hl 0 rfl) ?_
      refine lv_iadd hx hb dX13_placeOf_21 ?_
      refine lv_topi (fun z38854 ez38854 => ?_)
      have rz38854 := rg_all z38854
      exact t_iret hQ X hT (⟨rfl, rg_all _⟩) (Nat.le_of_ble_eq_true rfl) (Nat.le_of_ble_eq_true rfl) dX13_placeOf_22
  · have w38855 := cv_eq (rfl : p2.toInt = p2.toInt) (rfl : z38837.toInt = z38837.toInt) c38838
    refine lv_iload_n hx hb dX13_placeOf_6 rfl (lv_at hl 1 rfl) ?_
    refine lv_iload_n hx hb dX13_placeOf_7 rfl (lv_at hl 0 rfl) ?_
    refine lv_iadd hx hb dX13_placeOf_8 ?_
    refine lv_topi (fun z38856 ez38856 => ?_)
    have rz38856 := rg_all z38856
    exact t_iret hQ X hT (⟨rfl, rg_all _⟩) (Nat.le_of_ble_eq_true rfl) (Nat.le_of_ble_eq_true rfl) dX13_placeOf_9
set_option maxHeartbeats 4000000 in
set_option maxRecDepth 100000 in
theorem km143_X13_doorPlace (l : Launch) (G : KG) (tag : Nat → Nat) (L : List Nat) (F : Nat → va_E) (ho : okT G ttC tag L F) (p0 : Int32) (p1 : Int32) (p2 : Int32)  : TMi l yX13_doorPlace cX13_doorPlace 3 (some .int) { frames := 1, cells := 0, slots := 0, locals := 22 } G ttC tag L F [.int p0, .int p1, .int p2] (fun r F1 => F1 = F ∧ ((-2147483648) ≤ r.toInt ∧ r.toInt ≤ 2147483647)) := by
  refine t_bodyi (y := yX13_doorPlace) (cd := cX13_doorPlace) (mL := 3) (rt := (some .int)) (rm := { frames := 1, cells := 0, slots := 0, locals := 22 }) (av := [.int p0, .int p1, .int p2]) (by decide) (Nat.le_of_ble_eq_true rfl) ho ?_
  intro p e s m args below meth c ls A Q hQ X hT hl
  have hx := X.1.1
  have hb := X.1.2.1
  have hl : lv_has ls 3 [(0, .int p0), (1, .int p1), (2, .int p2)] := hl
  have rp0 := rg_all p0
  have rp1 := rg_all p1
  have rp2 := rg_all p2
  refine lv_iload_n hx hb dX13_doorPlace_0 rfl (lv_at hl 0 rfl) ?_
  refine lv_iload_n hx hb dX13_doorPlace_1 rfl (lv_at hl 0 rfl) ?_
  refine lv_iload_n hx hb dX13_doorPlace_2 rfl (lv_at hl 1 rfl) ?_
  refine lv_iload_n hx hb dX13_doorPlace_3 rfl (lv_at hl 2 rfl) ?_
  refine t_cSi (n := 3) (As := [.int p0, .int p1, .int p2]) (rest := [.int p0]) X hT (km108_X13_doorX l G tag L F hT.2.2.2 p0 p1 p2 ) qw_807 qw_808 qw_5 qw_809 ⟨by decide +kernel, by decide +kernel, by decide +kernel⟩ ⟨Nat.le_of_ble_eq_true rfl, Nat.le_of_ble_eq_true rfl⟩ hl rfl rfl (Nat.le_of_ble_eq_true rfl) dX13_doorPlace_4 ⟨Nat.le_of_ble_eq_true rfl, Nat.le_of_ble_eq_true rfl⟩ (fun z38888 F9 H locs hT hz38888 => ?_)
  obtain ⟨fz38888, hz38888⟩ := hz38888
  rw [fz38888] at hT
  refine lv_iload_n hx hb dX13_doorPlace_7 rfl (lv_at hl 0 rfl) ?_
  refine lv_iload_n hx hb dX13_doorPlace_8 rfl (lv_at hl 1 rfl) ?_
  refine lv_iload_n hx hb dX13_doorPlace_9 rfl (lv_at hl 2 rfl) ?_
  refine t_cSi (n := 3) (As := [.int p0, .int p1, .int p2]) (rest := [.int z38888, .int p0]) X hT (km110_X13_doorY l G tag L F hT.2.2.2 p0 p1 p2 ) qw_813 qw_814 qw_5 qw_815 ⟨by decide +kernel, by decide +kernel, by decide +kernel⟩ ⟨Nat.le_of_ble_eq_true rfl, Nat.le_of_ble_eq_true rfl⟩ hl rfl rfl (Nat.le_of_ble_eq_true rfl) dX13_doorPlace_10 ⟨Nat.le_of_ble_eq_true rfl, Nat.le_of_ble_eq_true rfl⟩ (fun z38889 F9 H locs hT hz38889 => ?_)
  obtain ⟨fz38889, hz38889⟩ := hz38889
  rw [fz38889] at hT
  refine t_cSi (n := 3) (As := [.int p0, .int z38888, .int z38889]) (rest := []) X hT (km142_X13_placeOf l G tag L F hT.2.2.2 p0 z38888 z38889 ) qw_941 qw_942 qw_5 qw_943 ⟨by decide +kernel, by decide +kernel, by decide +kernel⟩ ⟨Nat.le_of_ble_eq_true rfl, Nat.le_of_ble_eq_true rfl⟩ hl rfl rfl (Nat.le_of_ble_eq_true rfl) dX13_doorPlace_13 ⟨Nat.le_of_ble_eq_true rfl, Nat.le_of_ble_eq_true rfl⟩ (fun z38890 F9 H locs hT hz38890 => ?_)
  obtain ⟨fz38890, hz38890⟩ := hz38890
  rw [fz38890] at hT
  exact t_iret hQ X hT (⟨rfl, rg_all _⟩) (Nat.le_of_ble_eq_true rfl) (Nat.le_of_ble_eq_true rfl) dX13_doorPlace_16
set_option maxHeartbeats 4000000 in
set_option maxRecDepth 100000 in
theorem km144_X13_frontPlace (l : Launch) (G : KG) (tag : Nat → Nat) (L : List Nat) (F : Nat → va_E) (ho : okT G ttC tag L F) (p0 : Int32) (p1 : Int32) (p2 : Int32)  : TMi l yX13_frontPlace cX13_frontPlace 3 (some .int) { frames := 1, cells := 0, slots := 0, locals := 22 } G ttC tag L F [.int p0, .int p1, .int p2] (fun r F1 => F1 = F ∧ ((-2147483648) ≤ r.toInt ∧ r.toInt ≤ 2147483647)) := by
  refine t_bodyi (y := yX13_frontPlace) (cd := cX13_frontPlace) (mL := 3) (rt := (some .int)) (rm := { frames := 1, cells := 0, slots := 0, locals := 22 }) (av := [.int p0, .int p1, .int p2]) (by decide) (Nat.le_of_ble_eq_true rfl) ho ?_
  intro p e s m args below meth c ls A Q hQ X hT hl
  have hx := X.1.1
  have hb := X.1.2.1
  have hl : lv_has ls 3 [(0, .int p0), (1, .int p1), (2, .int p2)] := hl
  have rp0 := rg_all p0
  have rp1 := rg_all p1
  have rp2 := rg_all p2
  refine lv_iload_n hx hb dX13_frontPlace_0 rfl (lv_at hl 0 rfl) ?_
  refine lv_iconst (v := 1) hx hb dX13_frontPlace_1 (by decide) ?_
  refine lv_iadd hx hb dX13_frontPlace_2 ?_
  refine lv_topi (fun z38989 ez38989 => ?_)
  have rz38989 := rg_all z38989
  refine lv_iload_n hx hb dX13_frontPlace_3 rfl (lv_at hl 0 rfl) ?_
  refine lv_iload_n hx hb dX13_frontPlace_4 rfl (lv_at hl 1 rfl) ?_
  refine lv_iload_n hx hb dX13_frontPlace_5 rfl (lv_at hl 2 rfl) ?_
  refine t_cSi (n := 3) (As := [.int p0, .int p1, .int p2]) (rest := [.int z38989]) X hT (km108_X13_doorX l G tag L F hT.2.2.2 p0 p1 p2 ) qw_807 qw_808 qw_5 qw_809 ⟨by decide +kernel, by decide +kernel, by decide +kernel⟩ ⟨Nat.le_of_ble_eq_true rfl, Nat.le_of_ble_eq_true rfl⟩ hl rfl rfl (Nat.le_of_ble_eq_true rfl) dX13_frontPlace_6 ⟨Nat.le_of_ble_eq_true rfl, Nat.le_of_ble_eq_true rfl⟩ (fun z38990 F9 H locs hT hz38990 => ?_)
  obtain ⟨fz38990, hz38990⟩ := hz38990
  rw [fz38990] at hT
  refine lv_iload_n hx hb dX13_frontPlace_9 rfl (lv_at hl 1 rfl) ?_
  refine t_cSi (n := 1) (As := [.int p1]) (rest := [.int z38990, .int z38989]) X hT (km109_X13_outX l G tag L F hT.2.2.2 p1 ) qw_810 qw_811 qw_5 qw_812 ⟨by decide +kernel, by decide +kernel, by decide +kernel⟩ ⟨Nat.le_of_ble_eq_true rfl, Nat.le_of_ble_eq_true rfl⟩ hl rfl rfl (Nat.le_of_ble_eq_true rfl) dX13_frontPlace_10 ⟨Nat.le_of_ble_eq_true rfl, Nat.le_of_ble_eq_true rfl⟩ (fun z38991 F9 H locs hT hz38991 => ?_)
  obtain ⟨fz38991, hz38991⟩ := hz38991
  rw [fz38991] at hT
  refine lv_iadd hx hb dX13_frontPlace_13 ?_
  refine lv_topi (fun z38992 ez38992 => ?_)
  have rz38992 := rg_all z38992
  refine lv_iload_n hx hb dX13_frontPlace_14 rfl (lv_at hl 0 rfl) ?_
  refine lv_iload_n hx hb dX13_frontPlace_15 rfl (lv_at hl 1 rfl) ?_
  refine lv_iload_n hx hb dX13_frontPlace_16 rfl (lv_at hl 2 rfl) ?_
  refine t_cSi (n := 3) (As := [.int p0, .int p1, .int p2]) (rest := [.int z38992, .int z38989]) X hT (km110_X13_doorY l G tag L F hT.2.2.2 p0 p1 p2 ) qw_813 qw_814 qw_5 qw_815 ⟨by decide +kernel, by decide +kernel, by decide +kernel⟩ ⟨Nat.le_of_ble_eq_true rfl, Nat.le_of_ble_eq_true rfl⟩ hl rfl rfl (Nat.le_of_ble_eq_true rfl) dX13_frontPlace_17 ⟨Nat.le_of_ble_eq_true rfl, Nat.le_of_ble_eq_true rfl⟩ (fun z38993 F9 H locs hT hz38993 => ?_)
  obtain ⟨fz38993, hz38993⟩ := hz38993
  rw [fz38993] at hT
  refine lv_iload_n hx hb dX13_frontPlace_20 rfl (lv_at hl 1 rfl) ?_
  refine t_cSi (n := 1) (As := [.int p1]) (rest := [.int z38993, .int z38992, .int z38989]) X hT (km111_X13_outY l G tag L F hT.2.2.2 p1 ) qw_816 qw_817 qw_5 qw_818 ⟨by decide +kernel, by decide +kernel, by decide +kernel⟩ ⟨Nat.le_of_ble_eq_true rfl, Nat.le_of_ble_eq_true rfl⟩ hl rfl rfl (Nat.le_of_ble_eq_true rfl) dX13_frontPlace_21 ⟨Nat.le_of_ble_eq_true rfl, Nat.le_of_ble_eq_true rfl⟩ (fun z38994 F9 H locs hT hz38994 => ?_)
  obtain ⟨fz38994, hz38994⟩ := hz38994
  rw [fz38994] at hT
  refine lv_iadd hx hb dX13_frontPlace_24 ?_
  refine lv_topi (fun z38995 ez38995 => ?_)
  have rz38995 := rg_all z38995
  refine t_cSi (n := 3) (As := [.int z38989, .int z38992, .int z38995]) (rest := []) X hT (km142_X13_placeOf l G tag L F hT.2.2.2 z38989 z38992 z38995 ) qw_941 qw_942 qw_5 qw_943 ⟨by decide +kernel, by decide +kernel, by decide +kernel⟩ ⟨Nat.le_of_ble_eq_true rfl, Nat.le_of_ble_eq_true rfl⟩ hl rfl rfl (Nat.le_of_ble_eq_true rfl) dX13_frontPlace_25 ⟨Nat.le_of_ble_eq_true rfl, Nat.le_of_ble_eq_true rfl⟩ (fun z38996 F9 H locs hT hz38996 => ?_)
  obtain ⟨fz38996, hz38996⟩ := hz38996
  rw [fz38996] at hT
  exact t_iret hQ X hT (⟨rfl, rg_all _⟩) (Nat.le_of_ble_eq_true rfl) (Nat.le_of_ble_eq_true rfl) dX13_frontPlace_28
set_option maxHeartbeats 4000000 in
set_option maxRecDepth 100000 in
theorem km145_X13_roundOf (l : Launch) (G : KG) (tag : Nat → Nat) (L : List Nat) (F : Nat → va_E) (ho : okT G ttC tag L F) (p0 : Int32) (p1 : Int32) (p2 : Int32)  : TMi l yX13_roundOf cX13_roundOf 4 (some .int) { frames := 0, cells := 0, slots := 0, locals := 0 } G ttC tag L F [.int p0, .int p1, .int p2] (fun r F1 => F1 = F ∧ ((-2147483648) ≤ r.toInt ∧ r.toInt ≤ 2147483647)) := by
  refine t_bodyi (y := yX13_roundOf) (cd := cX13_roundOf) (mL := 4) (rt := (some .int)) (rm := { frames := 0, cells := 0, slots := 0, locals := 0 }) (av := [.int p0, .int p1, .int p2]) (by decide) (Nat.le_of_ble_eq_true rfl) ho ?_
  intro p e s m args below meth c ls A Q hQ X hT hl
  have hx := X.1.1
  have hb := X.1.2.1
  have hl : lv_has ls 4 [(0, .int p0), (1, .int p1), (2, .int p2)] := hl
  have rp0 := rg_all p0
  have rp1 := rg_all p1
  have rp2 := rg_all p2
  have K14 : ∀ (z39130 : Int32) (H : Heap) (locs : List Loc) (ls : Array Slot), TH G ttC A s tag L F H locs → lv_has ls 4 [(0, .int p0), (1, .int p1), (2, .int p2)] → W p l e { frames := 0, cells := 0, slots := 0, locals := 0 } s m args below meth c H locs 0 0 Q (F0 m 14 ls [.int z39130]) := by
    intro z39130 H locs ls hT hl
    have rz39130 := rg_all z39130
    refine lv_istore_n (lv' := [(3, .int z39130), (0, .int p0), (1, .int p1), (2, .int p2)]) hx hb dX13_roundOf_14 rfl hl (by decide) rfl (fun ls hl => ?_)
    refine lv_iload_n hx hb dX13_roundOf_15 rfl (lv_at hl 0 rfl) ?_
    refine lv_bipush (v := 8) hx hb dX13_roundOf_16 (by decide) ?_
    refine lv_iload_n hx hb dX13_roundOf_18 rfl (lv_at hl 1 rfl) ?_
    refine lv_imul hx hb dX13_roundOf_19 ?_
    refine lv_topi (fun z39131 ez39131 => ?_)
    have rz39131 := rg_all z39131
    refine lv_iload_n hx hb dX13_roundOf_20 rfl (lv_at hl 0 rfl) ?_
    refine lv_isub hx hb dX13_roundOf_21 ?_
    refine lv_topi (fun z39132 ez39132 => ?_)
    have rz39132 := rg_all z39132
    refine lv_icmp_ge (tgt := 29) hx hb dX13_roundOf_22 (by decide) (fun c39133 => ?_) (fun c39133 => ?_)
    · have w39134 := cv_le (rfl : z39132.toInt = z39132.toInt) (rfl : z39130.toInt = z39130.toInt) c39133
      refine lv_bipush (v := 8) hx hb dX13_roundOf_29 (by decide) ?_
      refine lv_iload_n hx hb dX13_roundOf_31 rfl (lv_at hl 1 rfl) ?_
      refine lv_imul hx hb dX13_roundOf_32 ?_
      refine lv_topi (fun z39135 ez39135 => ?_)
      have rz39135 := rg_all z39135
      refine lv_iload_n hx hb dX13_roundOf_33 rfl (lv_at hl 0 rfl) ?_
      refine lv_isub hx hb dX13_roundOf_34 ?_
      refine lv_topi (fun z39136 ez39136 => ?_)
      have rz39136 := rg_all z39136
      exact t_iret hQ X hT (⟨rfl, rg_all _⟩) (Nat.le_of_ble_eq_true rfl) (Nat.le_of_ble_eq_true rfl) dX13_roundOf_35
    · have w39137 := cv_nle (rfl : z39132.toInt = z39132.toInt) (rfl : z39130.toInt = z39130.toInt) c39133
      refine lv_iload_n hx hb dX13_roundOf_25 rfl (lv_at hl 0 rfl) ?_
      refine lv_goto (tgt := 35) hx hb dX13_roundOf_26 (by decide) ?_
      exact t_iret hQ X hT (⟨rfl, rg_all _⟩) (Nat.le_of_ble_eq_true rfl) (Nat.le_of_ble_eq_true rfl) dX13_roundOf_35
  refine lv_iload_n hx hb dX13_roundOf_0 rfl (lv_at hl 1 rfl) ?_
  refine lv_iload_n hx hb dX13_roundOf_1 rfl (lv_at hl 2 rfl) ?_
  refine lv_icmp_le (tgt := 11) hx hb dX13_roundOf_2 (by decide) (fun c39138 => ?_) (fun c39138 => ?_)
  · have w39139 := cv_le (rfl : p1.toInt = p1.toInt) (rfl : p2.toInt = p2.toInt) c39138
    refine lv_iload_n hx hb dX13_roundOf_11 rfl (lv_at hl 2 rfl) ?_
    refine lv_iload_n hx hb dX13_roundOf_12 rfl (lv_at hl 1 rfl) ?_
    refine lv_isub hx hb dX13_roundOf_13 ?_
    refine lv_topi (fun z39140 ez39140 => ?_)
    have rz39140 := rg_all z39140
    exact K14 z39140 _ _ _  hT  (lv_sub hl [0, 1, 2] rfl)
  · have w39141 := cv_nle (rfl : p1.toInt = p1.toInt) (rfl : p2.toInt = p2.toInt) c39138
    refine lv_iload_n hx hb dX13_roundOf_5 rfl (lv_at hl 1 rfl) ?_
    refine lv_iload_n hx hb dX13_roundOf_6 rfl (lv_at hl 2 rfl) ?_
    refine lv_isub hx hb dX13_roundOf_7 ?_
    refine lv_topi (fun z39142 ez39142 => ?_)
    have rz39142 := rg_all z39142
    refine lv_goto (tgt := 14) hx hb dX13_roundOf_8 (by decide) ?_
    exact K14 z39142 _ _ _  hT  (lv_sub hl [0, 1, 2] rfl)
set_option maxHeartbeats 4000000 in
set_option maxRecDepth 100000 in
theorem km146_X13_findsDoor (l : Launch) (G : KG) (tag : Nat → Nat) (L : List Nat) (Fo : Nat → va_E) (ho : okT G ttC tag L Fo) (p0 : Nat) (p1 : Nat) (p2 : Int32) (x0 : Nat) (x1 : Int32) (m0 : p0 ∈ L) (g0 : tag p0 = 46) (m1 : p1 ∈ L) (g1 : tag p1 = 37) (h2 : 0 ≤ p2.toInt ∧ p2.toInt ≤ 3) (mx0 : x0 ∈ L) (gx0 : tag x0 = 45) (pf0 : fld Fo p0 3 = .ref x0) (hx1 : 0 ≤ x1.toInt ∧ x1.toInt ≤ 6) (pf1 : elm Fo p1 p2.toNatClampNeg = x1) : TMi l yX13_findsDoor cX13_findsDoor 8 (some .boolean) { frames := 4, cells := 0, slots := 0, locals := 98 } G ttC tag L Fo [.ref p0, .ref p1, .int p2] (fun r F1 => (0 ≤ r.toInt ∧ r.toInt ≤ 1) ∧ ((∀ b j : Nat, (tag b ≠ 46 ∨ j ≠ 22) → (tag b ≠ 46 ∨ j ≠ 23) → fld F1 b j = fld Fo b j) ∧ (∀ b j : Nat, elm F1 b j = elm Fo b j)) ∧ (r.toInt ≠ 0 → x1.toInt ≤ 5)) := by
  refine t_bodyi (y := yX13_findsDoor) (cd := cX13_findsDoor) (mL := 8) (rt := (some .boolean)) (rm := { frames := 4, cells := 0, slots := 0, locals := 98 }) (av := [.ref p0, .ref p1, .int p2]) (by decide) (Nat.le_of_ble_eq_true rfl) ho ?_
  intro p e s m args below meth c ls A Q hQ X hT hl
  have hx := X.1.1
  have hb := X.1.2.1
  have hl : lv_has ls 8 [(0, .ref p0), (1, .ref p1), (2, .int p2)] := hl
  obtain ⟨F, hFo⟩ : ∃ F : Nat → va_E, F = Fo := ⟨_, rfl⟩
  rw [← hFo] at hT pf0 pf1
  have hfr : (∀ b j : Nat, (tag b ≠ 46 ∨ j ≠ 22) → (tag b ≠ 46 ∨ j ≠ 23) → fld F b j = fld Fo b j) ∧ (∀ b j : Nat, elm F b j = elm Fo b j) := by
    rw [hFo]
    exact ⟨by intros; rfl, by intros; rfl⟩
  have K39 : ∀ (n : Nat) (z40334 : Int32) (z40335 : Int32) (z40336 : Int32) (z40337 : Int32) (F : Nat → va_E) (H : Heap) (locs : List Loc) (ls : Array Slot), (4 - z40336.toInt < (n : Int)) → (1 ≤ z40334.toInt ∧ z40334.toInt ≤ 6) → (0 ≤ z40336.toInt ∧ z40336.toInt ≤ 4) → (0 ≤ z40337.toInt ∧ z40337.toInt ≤ 5) → TH G ttC A s tag L F H locs → ((∀ b j : Nat, (tag b ≠ 46 ∨ j ≠ 22) → (tag b ≠ 46 ∨ j ≠ 23) → fld F b j = fld Fo b j) ∧ (∀ b j : Nat, elm F b j = elm Fo b j)) → (fld F p0 3 = .ref x0) → (elm F p1 p2.toNatClampNeg = z40337) → (x1.toInt ≤ 5) → lv_has ls 8 [(0, .ref p0), (1, .ref p1), (2, .int p2), (3, .int z40334), (4, .int z40335), (5, .int z40336)] → W p l e { frames := 4, cells := 0, slots := 0, locals := 98 } s m args below meth c H locs 0 0 Q (F0 m 39 ls []) := by
    intro n
    induction n with
    | zero =>
      intro z40334 z40335 z40336 z40337 F H locs ls hn rz40334 rz40336 rz40337 hT hfr pf0 qz40337 ex39_0 hl
      have rz40335 := rg_all z40335
      exfalso
      omega
    | succ n ih39 =>
      intro z40334 z40335 z40336 z40337 F H locs ls hn rz40334 rz40336 rz40337 hT hfr pf0 qz40337 ex39_0 hl
      have rz40335 := rg_all z40335
      have K48 : ∀ (n : Nat) (z40338 : Int32) (z40340 : Int32) (z40341 : Int32) (F : Nat → va_E) (H : Heap) (locs : List Loc) (ls : Array Slot), (11 - z40340.toInt < (n : Int)) → (0 ≤ z40340.toInt ∧ z40340.toInt ≤ 11) → (0 ≤ z40341.toInt ∧ z40341.toInt ≤ 5) → (0 ≤ z40336.toInt ∧ z40336.toInt ≤ 3) → TH G ttC A s tag L F H locs → ((∀ b j : Nat, (tag b ≠ 46 ∨ j ≠ 22) → (tag b ≠ 46 ∨ j ≠ 23) → fld F b j = fld Fo b j) ∧ (∀ b j : Nat, elm F b j = elm Fo b j)) → (fld F p0 3 = .ref x0) → (elm F p1 p2.toNatClampNeg = z40341) → (x1.toInt ≤ 5) → lv_has ls 8 [(0, .ref p0), (1, .ref p1), (2, .int p2), (3, .int z40334), (4, .int z40338), (5, .int z40336), (6, .int z40340)] → W p l e { frames := 4, cells := 0, slots := 0, locals := 98 } s m args below meth c H locs 0 0 Q (F0 m 48 ls []) := by
        intro n
        induction n with
        | zero =>
          intro z40338 z40340 z40341 F H locs ls hn rz40340 rz40341 r9s40339 hT hfr pf0 qz40341 ex48_0 hl
          have rz40338 := rg_all z40338
          exfalso
          omega
        | succ n ih48 =>
          intro z40338 z40340 z40341 F H locs ls hn rz40340 rz40341 r9s40339 hT hfr pf0 qz40341 ex48_0 hl
          have rz40338 := rg_all z40338
          have K180 : ∀ (z40342 : Int32) (z40344 : Int32) (F : Nat → va_E) (H : Heap) (locs : List Loc) (ls : Array Slot), (0 ≤ z40344.toInt ∧ z40344.toInt ≤ 5) → (0 ≤ z40340.toInt ∧ z40340.toInt ≤ 10) → TH G ttC A s tag L F H locs → ((∀ b j : Nat, (tag b ≠ 46 ∨ j ≠ 22) → (tag b ≠ 46 ∨ j ≠ 23) → fld F b j = fld Fo b j) ∧ (∀ b j : Nat, elm F b j = elm Fo b j)) → (fld F p0 3 = .ref x0) → (elm F p1 p2.toNatClampNeg = z40344) → (x1.toInt ≤ 5) → lv_has ls 8 [(0, .ref p0), (1, .ref p1), (2, .int p2), (3, .int z40334), (4, .int z40342), (5, .int z40336), (6, .int z40340)] → W p l e { frames := 4, cells := 0, slots := 0, locals := 98 } s m args below meth c H locs 0 0 Q (F0 m 180 ls []) := by
            intro z40342 z40344 F H locs ls rz40344 r9s40343 hT hfr pf0 qz40344 ex180_0 hl
            have rz40342 := rg_all z40342
            obtain ⟨z40345, ez40345⟩ : ∃ y : Int32, y = z40340 + 1 := ⟨_, rfl⟩
            have hz40345 : z40345.toInt = z40340.toInt + 1 := ar_add ez40345 rfl (by decide : (1 : Int32).toInt = 1) (by omega) (by omega)
            refine lv_iinc (v := z40345) (lv' := [(6, .int z40345), (0, .ref p0), (1, .ref p1), (2, .int p2), (3, .int z40334), (4, .int z40342), (5, .int z40336)]) hx hb dX13_findsDoor_180 hl (k := 6) rfl (by rw [ez40345]; rfl) (by decide) rfl (fun ls hl => ?_)
            refine lv_goto (tgt := 48) hx hb dX13_findsDoor_183 (by decide) ?_
            exact ih48 z40342 z40345 z40344 _ _ _ _ (by omega) (by omega) (by omega) (by omega) hT hfr pf0 qz40344 (by omega) (lv_sub hl [1, 2, 3, 4, 5, 6, 0] rfl)
          have K164 : ∀ (z40347 : Int32) (z40348 : Int32) (F : Nat → va_E) (H : Heap) (locs : List Loc) (ls : Array Slot), (0 ≤ z40348.toInt ∧ z40348.toInt ≤ 5) → (0 ≤ z40340.toInt ∧ z40340.toInt ≤ 10) → TH G ttC A s tag L F H locs → ((∀ b j : Nat, (tag b ≠ 46 ∨ j ≠ 22) → (tag b ≠ 46 ∨ j ≠ 23) → fld F b j = fld Fo b j) ∧ (∀ b j : Nat, elm F b j = elm Fo b j)) → (fld F p0 3 = .ref x0) → (elm F p1 p2.toNatClampNeg = z40348) → (x1.toInt ≤ 5) → lv_has ls 8 [(0, .ref p0), (1, .ref p1), (2, .int p2), (3, .int z40334), (4, .int z40338), (5, .int z40336), (6, .int z40340), (7, .int z40347)] → W p l e { frames := 4, cells := 0, slots := 0, locals := 98 } s m args below meth c H locs 0 0 Q (F0 m 164 ls []) := by
            intro z40347 z40348 F H locs ls rz40348 r9s40346 hT hfr pf0 qz40348 ex164_0 hl
            have rz40347 := rg_all z40347
            refine lv_iload hx hb dX13_findsDoor_164 (lv_at hl 7 rfl) ?_
            refine lv_istore (lv' := [(4, .int z40347), (0, .ref p0), (1, .ref p1), (2, .int p2), (3, .int z40334), (5, .int z40336), (6, .int z40340), (7, .int z40347)]) hx hb dX13_findsDoor_166 hl (by decide) rfl (fun ls hl => ?_)
            refine lv_aload_n hx hb dX13_findsDoor_168 rfl (lv_at hl 1 rfl) ?_
            refine lv_iload hx hb dX13_findsDoor_169 (lv_at hl 5 rfl) ?_
            refine t_put (C := RX13) (T := TX13) (N := 37) (v := .int z40336) X hT m0 g0 rfl tyX13 tyX13_ok nmX13 rfl 22 (by decide) qw_932 inlX13 rfl (by first | rfl | decide) (by first | rfl | decide) rfl (⟨_, rfl, (show (-2147483648) ≤ (z40336 : Int32).toInt from (by omega)), (show (z40336 : Int32).toInt ≤ 2147483647 from (by omega))⟩) dX13_findsDoor_171 (fun F H locs hT v40349 h1v40349 h2v40349 => ?_)
            have qz40348 := (h2v40349 _ _).trans qz40348
            have pf0 := (h1v40349 _ _ (Or.inr (by decide))).trans pf0
            have hfr : (∀ b j : Nat, (tag b ≠ 46 ∨ j ≠ 22) → (tag b ≠ 46 ∨ j ≠ 23) → fld F b j = fld Fo b j) ∧ (∀ b j : Nat, elm F b j = elm Fo b j) := ⟨fun b j n46_22 n46_23 => (h1v40349 b j (fr_ne g0 n46_22)).trans (hfr.1 b j n46_22 n46_23), fun b j  => (h2v40349 b j).trans (hfr.2 b j )⟩
            refine lv_aload_n hx hb dX13_findsDoor_174 rfl (lv_at hl 1 rfl) ?_
            refine lv_iload hx hb dX13_findsDoor_175 (lv_at hl 6 rfl) ?_
            refine t_put (C := RX13) (T := TX13) (N := 37) (v := .int z40340) X hT m0 g0 rfl tyX13 tyX13_ok nmX13 rfl 23 (by decide) qw_933 inlX13 rfl (by first | rfl | decide) (by first | rfl | decide) rfl (⟨_, rfl, (show (-2147483648) ≤ (z40340 : Int32).toInt from (by omega)), (show (z40340 : Int32).toInt ≤ 2147483647 from (by omega))⟩) dX13_findsDoor_177 (fun F H locs hT v40350 h1v40350 h2v40350 => ?_)
            have qz40348 := (h2v40350 _ _).trans qz40348
            have pf0 := (h1v40350 _ _ (Or.inr (by decide))).trans pf0
            have v40349 := (h1v40350 _ _ (Or.inr (by decide))).trans v40349
            have hfr : (∀ b j : Nat, (tag b ≠ 46 ∨ j ≠ 22) → (tag b ≠ 46 ∨ j ≠ 23) → fld F b j = fld Fo b j) ∧ (∀ b j : Nat, elm F b j = elm Fo b j) := ⟨fun b j n46_22 n46_23 => (h1v40350 b j (fr_ne g0 n46_23)).trans (hfr.1 b j n46_22 n46_23), fun b j  => (h2v40350 b j).trans (hfr.2 b j )⟩
            exact K180 z40347 z40348 _ _ _ _ (by omega) (by omega) hT hfr pf0 qz40348 (by omega) (lv_sub hl [1, 2, 3, 4, 0, 5, 6] rfl)
          have K125 : ∀ (z40352 : Int32) (z40353 : Int32) (F : Nat → va_E) (H : Heap) (locs : List Loc) (ls : Array Slot), (0 ≤ z40353.toInt ∧ z40353.toInt ≤ 5) → (0 ≤ z40340.toInt ∧ z40340.toInt ≤ 10) → TH G ttC A s tag L F H locs → ((∀ b j : Nat, (tag b ≠ 46 ∨ j ≠ 22) → (tag b ≠ 46 ∨ j ≠ 23) → fld F b j = fld Fo b j) ∧ (∀ b j : Nat, elm F b j = elm Fo b j)) → (fld F p0 3 = .ref x0) → (elm F p1 p2.toNatClampNeg = z40353) → (x1.toInt ≤ 5) → lv_has ls 8 [(0, .ref p0), (1, .ref p1), (2, .int p2), (3, .int z40334), (4, .int z40338), (5, .int z40336), (6, .int z40340)] → W p l e { frames := 4, cells := 0, slots := 0, locals := 98 } s m args below meth c H locs 0 0 Q (F0 m 125 ls [.int z40352]) := by
            intro z40352 z40353 F H locs ls rz40353 r9s40351 hT hfr pf0 qz40353 ex125_0 hl
            have rz40352 := rg_all z40352
            refine lv_istore (lv' := [(7, .int z40352), (0, .ref p0), (1, .ref p1), (2, .int p2), (3, .int z40334), (4, .int z40338), (5, .int z40336), (6, .int z40340)]) hx hb dX13_findsDoor_125 hl (by decide) rfl (fun ls hl => ?_)
            refine lv_iload hx hb dX13_findsDoor_127 (lv_at hl 5 rfl) ?_
            refine lv_bipush (v := (-2)) hx hb dX13_findsDoor_129 (by decide) ?_
            refine lv_icmp_eq (tgt := 164) hx hb dX13_findsDoor_131 (by decide) (fun c40354 => ?_) (fun c40354 => ?_)
            · have w40355 := cv_eq (rfl : z40338.toInt = z40338.toInt) (by decide : ((-2) : Int32).toInt = (-2)) c40354
              exact K164 z40352 z40353 _ _ _ _ (by omega) (by omega) hT hfr pf0 qz40353 (by omega) (lv_sub hl [1, 2, 3, 4, 5, 6, 7, 0] rfl)
            · have w40356 := cv_ne (rfl : z40338.toInt = z40338.toInt) (by decide : ((-2) : Int32).toInt = (-2)) c40354
              refine lv_aload_n hx hb dX13_findsDoor_134 rfl (lv_at hl 1 rfl) ?_
              refine t_get (C := RX13) (T := TX13) (N := 37) X hT m0 g0 rfl rfl 3 (by decide) qw_481 inlX13 rfl dX13_findsDoor_135 (fun v40357 hv40357 ov40357 => ?_)
              obtain rfl : v40357 = .ref x0 := hv40357.symm.trans pf0
              refine t_getN (C := RX12) (T := TX12) (N := 31) X hT mx0 gx0 rfl rfl 13 (by decide) (List.mem_of_getElem? (i := 17) rfl) inlX12 rfl dX13_findsDoor_138 (fun v40358 hv40358 ov40358 => ?_)
              obtain ⟨z40359, rfl, rz40359⟩ := okV_i ov40358
              refine lv_if_eq (tgt := 154) hx hb dX13_findsDoor_141 (by decide) (fun c40360 => ?_) (fun c40360 => ?_)
              · have w40361 := cv_eq (rfl : z40359.toInt = z40359.toInt) (by decide : (0 : Int32).toInt = 0) c40360
                refine lv_iload hx hb dX13_findsDoor_154 (lv_at hl 0 rfl) ?_
                refine lv_iload hx hb dX13_findsDoor_156 (lv_at hl 5 rfl) ?_
                refine lv_icmp_lt (tgt := 164) hx hb dX13_findsDoor_158 (by decide) (fun c40362 => ?_) (fun c40362 => ?_)
                · have w40363 := cv_lt (rfl : z40352.toInt = z40352.toInt) (rfl : z40338.toInt = z40338.toInt) c40362
                  exact K164 z40352 z40353 _ _ _ _ (by omega) (by omega) hT hfr pf0 qz40353 (by omega) (lv_sub hl [1, 2, 3, 4, 5, 6, 7, 0] rfl)
                · have w40364 := cv_nlt (rfl : z40352.toInt = z40352.toInt) (rfl : z40338.toInt = z40338.toInt) c40362
                  refine lv_goto (tgt := 180) hx hb dX13_findsDoor_161 (by decide) ?_
                  exact K180 z40338 z40353 _ _ _ _ (by omega) (by omega) hT hfr pf0 qz40353 (by omega) (lv_sub hl [1, 2, 3, 4, 5, 6, 7] rfl)
              · have w40365 := cv_ne (rfl : z40359.toInt = z40359.toInt) (by decide : (0 : Int32).toInt = 0) c40360
                refine lv_iload hx hb dX13_findsDoor_144 (lv_at hl 0 rfl) ?_
                refine lv_iload hx hb dX13_findsDoor_146 (lv_at hl 5 rfl) ?_
                refine lv_icmp_gt (tgt := 164) hx hb dX13_findsDoor_148 (by decide) (fun c40366 => ?_) (fun c40366 => ?_)
                · have w40367 := cv_lt (rfl : z40338.toInt = z40338.toInt) (rfl : z40352.toInt = z40352.toInt) c40366
                  exact K164 z40352 z40353 _ _ _ _ (by omega) (by omega) hT hfr pf0 qz40353 (by omega) (lv_sub hl [1, 2, 3, 4, 5, 6, 7, 0] rfl)
                · have w40368 := cv_nlt (rfl : z40338.toInt = z40338.toInt) (rfl : z40352.toInt = z40352.toInt) c40366
                  refine lv_goto (tgt := 180) hx hb dX13_findsDoor_151 (by decide) ?_
                  exact K180 z40338 z40353 _ _ _ _ (by omega) (by omega) hT hfr pf0 qz40353 (by omega) (lv_sub hl [1, 2, 3, 4, 5, 6, 7] rfl)
          refine lv_iload hx hb dX13_findsDoor_48 (lv_at hl 6 rfl) ?_
          refine lv_iconst (v := 2) hx hb dX13_findsDoor_50 (by decide) ?_
          refine lv_iload_n hx hb dX13_findsDoor_51 rfl (lv_at hl 3 rfl) ?_
          refine lv_imul hx hb dX13_findsDoor_52 ?_
          refine lv_topi (fun z40369 ez40369 => ?_)
          have hz40369 : z40369.toInt = 2 * z40334.toInt := ar_mul ez40369 (by decide : (2 : Int32).toInt = 2) (rfl : z40334.toInt = z40334.toInt) (by omega) (by omega)
          have rz40369 : 2 ≤ z40369.toInt ∧ z40369.toInt ≤ 12 := by omega
          refine lv_iconst (v := 1) hx hb dX13_findsDoor_53 (by decide) ?_
          refine lv_isub hx hb dX13_findsDoor_54 ?_
          refine lv_topi (fun z40370 ez40370 => ?_)
          have hz40370 : z40370.toInt = z40369.toInt - 1 := ar_sub ez40370 (rfl : z40369.toInt = z40369.toInt) (by decide : (1 : Int32).toInt = 1) (by omega) (by omega)
          have rz40370 : 1 ≤ z40370.toInt ∧ z40370.toInt ≤ 11 := by omega
          refine lv_icmp_ge (tgt := 186) hx hb dX13_findsDoor_55 (by decide) (fun c40371 => ?_) (fun c40371 => ?_)
          · have w40372 := cv_le (rfl : z40370.toInt = z40370.toInt) (rfl : z40340.toInt = z40340.toInt) c40371
            obtain ⟨z40373, ez40373⟩ : ∃ y : Int32, y = z40336 + 1 := ⟨_, rfl⟩
            have hz40373 : z40373.toInt = z40336.toInt + 1 := ar_add ez40373 rfl (by decide : (1 : Int32).toInt = 1) (by omega) (by omega)
            refine lv_iinc (v := z40373) (lv' := [(5, .int z40373), (0, .ref p0), (1, .ref p1), (2, .int p2), (3, .int z40334), (4, .int z40338), (6, .int z40340)]) hx hb dX13_findsDoor_186 hl (k := 5) rfl (by rw [ez40373]; rfl) (by decide) rfl (fun ls hl => ?_)
            refine lv_goto (tgt := 39) hx hb dX13_findsDoor_189 (by decide) ?_
            exact ih39 z40334 z40338 z40373 z40341 _ _ _ _ (by omega) (by omega) (by omega) (by omega) hT hfr pf0 qz40341 (by omega) (lv_sub hl [1, 2, 3, 4, 5, 0] rfl)
          · have w40374 := cv_nle (rfl : z40370.toInt = z40370.toInt) (rfl : z40340.toInt = z40340.toInt) c40371
            refine lv_aload_n hx hb dX13_findsDoor_58 rfl (lv_at hl 0 rfl) ?_
            refine t_get (C := RX13) (T := TX13) (N := 37) X hT m0 g0 rfl rfl 3 (by decide) qw_481 inlX13 rfl dX13_findsDoor_59 (fun v40375 hv40375 ov40375 => ?_)
            obtain rfl : v40375 = .ref x0 := hv40375.symm.trans pf0
            refine lv_aload_n hx hb dX13_findsDoor_62 rfl (lv_at hl 1 rfl) ?_
            refine lv_iload_n hx hb dX13_findsDoor_63 rfl (lv_at hl 2 rfl) ?_
            refine lv_iload_n hx hb dX13_findsDoor_64 rfl (lv_at hl 3 rfl) ?_
            refine lv_iload hx hb dX13_findsDoor_65 (lv_at hl 5 rfl) ?_
            refine lv_iload hx hb dX13_findsDoor_67 (lv_at hl 6 rfl) ?_
            refine t_cSi (n := 6) (As := [.ref x0, .ref p1, .int p2, .int z40334, .int z40336, .int z40340]) (rest := []) X hT (km113_X13_isFree l G tag L F hT.2.2.2 x0 p1 p2 z40334 z40336 z40340 mx0 gx0 m1 g1 (by omega)) qw_804 qw_805 qw_5 qw_806 ⟨by decide +kernel, by decide +kernel, by decide +kernel⟩ ⟨Nat.le_of_ble_eq_true rfl, Nat.le_of_ble_eq_true rfl⟩ hl rfl rfl (Nat.le_of_ble_eq_true rfl) dX13_findsDoor_69 ⟨Nat.le_of_ble_eq_true rfl, Nat.le_of_ble_eq_true rfl⟩ (fun z40376 F9 H locs hT hz40376 => ?_)
            obtain ⟨fz40376, hz40376⟩ := hz40376
            rw [fz40376] at hT
            refine lv_if_ne (tgt := 78) hx hb dX13_findsDoor_72 (by decide) (fun c40377 => ?_) (fun c40377 => ?_)
            · have w40378 := cv_ne (rfl : z40376.toInt = z40376.toInt) (by decide : (0 : Int32).toInt = 0) c40377
              refine lv_iload_n hx hb dX13_findsDoor_78 rfl (lv_at hl 3 rfl) ?_
              refine lv_iconst (v := 1) hx hb dX13_findsDoor_79 (by decide) ?_
              refine lv_icmp_ne (tgt := 87) hx hb dX13_findsDoor_80 (by decide) (fun c40379 => ?_) (fun c40379 => ?_)
              · have w40380 := cv_ne (rfl : z40334.toInt = z40334.toInt) (by decide : (1 : Int32).toInt = 1) c40379
                refine lv_iload_n hx hb dX13_findsDoor_87 rfl (lv_at hl 3 rfl) ?_
                refine lv_iload_n hx hb dX13_findsDoor_88 rfl (lv_at hl 3 rfl) ?_
                refine lv_iload hx hb dX13_findsDoor_89 (lv_at hl 5 rfl) ?_
                refine lv_iload hx hb dX13_findsDoor_91 (lv_at hl 6 rfl) ?_
                refine t_cSi (n := 3) (As := [.int z40334, .int z40336, .int z40340]) (rest := [.int z40334]) X hT (km143_X13_doorPlace l G tag L F hT.2.2.2 z40334 z40336 z40340 ) qw_938 qw_939 qw_5 qw_940 ⟨by decide +kernel, by decide +kernel, by decide +kernel⟩ ⟨Nat.le_of_ble_eq_true rfl, Nat.le_of_ble_eq_true rfl⟩ hl rfl rfl (Nat.le_of_ble_eq_true rfl) dX13_findsDoor_93 ⟨Nat.le_of_ble_eq_true rfl, Nat.le_of_ble_eq_true rfl⟩ (fun z40381 F9 H locs hT hz40381 => ?_)
                obtain ⟨fz40381, hz40381⟩ := hz40381
                rw [fz40381] at hT
                refine lv_iload_n hx hb dX13_findsDoor_96 rfl (lv_at hl 3 rfl) ?_
                refine lv_iconst (v := 1) hx hb dX13_findsDoor_97 (by decide) ?_
                refine lv_isub hx hb dX13_findsDoor_98 ?_
                refine lv_topi (fun z40382 ez40382 => ?_)
                have hz40382 : z40382.toInt = z40334.toInt - 1 := ar_sub ez40382 (rfl : z40334.toInt = z40334.toInt) (by decide : (1 : Int32).toInt = 1) (by omega) (by omega)
                have rz40382 : 1 ≤ z40382.toInt ∧ z40382.toInt ≤ 5 := by omega
                refine lv_aload_n hx hb dX13_findsDoor_99 rfl (lv_at hl 1 rfl) ?_
                refine lv_iload_n hx hb dX13_findsDoor_100 rfl (lv_at hl 2 rfl) ?_
                refine lv_iload_n hx hb dX13_findsDoor_101 rfl (lv_at hl 3 rfl) ?_
                refine lv_iconst (v := 1) hx hb dX13_findsDoor_102 (by decide) ?_
                refine lv_isub hx hb dX13_findsDoor_103 ?_
                refine lv_topi (fun z40383 ez40383 => ?_)
                have hz40383 : z40383.toInt = z40334.toInt - 1 := ar_sub ez40383 (rfl : z40334.toInt = z40334.toInt) (by decide : (1 : Int32).toInt = 1) (by omega) (by omega)
                have rz40383 : 1 ≤ z40383.toInt ∧ z40383.toInt ≤ 5 := by omega
                refine lv_iconst (v := 1) hx hb dX13_findsDoor_104 (by decide) ?_
                refine t_cSi (n := 3) (As := [.int p2, .int z40383, .int 1]) (rest := [.ref p1, .int z40382, .int z40381, .int z40334]) X hT (km49_X13_part l G tag L F hT.2.2.2 p2 z40383 1 (by omega) (by omega) (by decide)) qw_661 qw_662 qw_5 qw_663 ⟨by decide +kernel, by decide +kernel, by decide +kernel⟩ ⟨Nat.le_of_ble_eq_true rfl, Nat.le_of_ble_eq_true rfl⟩ hl rfl rfl (Nat.le_of_ble_eq_true rfl) dX13_findsDoor_105 ⟨Nat.le_of_ble_eq_true rfl, Nat.le_of_ble_eq_true rfl⟩ (fun z40384 F9 H locs hT hz40384 => ?_)
                obtain ⟨fz40384, hz40384, xz40384_0⟩ := hz40384
                rw [fz40384] at hT
                have k40385 : (1 : Int32).toInt = 1 := by decide
                refine t_ild X hT m1 g1 rfl (by omega) dX13_findsDoor_108 (fun z40386 vz40386 rz40386 => ?_)
                have oz40386 := rz40386
                have rz40386 := rg_all z40386
                refine lv_aload_n hx hb dX13_findsDoor_109 rfl (lv_at hl 1 rfl) ?_
                refine lv_iload_n hx hb dX13_findsDoor_110 rfl (lv_at hl 2 rfl) ?_
                refine lv_iload_n hx hb dX13_findsDoor_111 rfl (lv_at hl 3 rfl) ?_
                refine lv_iconst (v := 1) hx hb dX13_findsDoor_112 (by decide) ?_
                refine lv_isub hx hb dX13_findsDoor_113 ?_
                refine lv_topi (fun z40387 ez40387 => ?_)
                have hz40387 : z40387.toInt = z40334.toInt - 1 := ar_sub ez40387 (rfl : z40334.toInt = z40334.toInt) (by decide : (1 : Int32).toInt = 1) (by omega) (by omega)
                have rz40387 : 1 ≤ z40387.toInt ∧ z40387.toInt ≤ 5 := by omega
                refine lv_iconst (v := 2) hx hb dX13_findsDoor_114 (by decide) ?_
                refine t_cSi (n := 3) (As := [.int p2, .int z40387, .int 2]) (rest := [.ref p1, .int z40386, .int z40382, .int z40381, .int z40334]) X hT (km49_X13_part l G tag L F hT.2.2.2 p2 z40387 2 (by omega) (by omega) (by decide)) qw_661 qw_662 qw_5 qw_663 ⟨by decide +kernel, by decide +kernel, by decide +kernel⟩ ⟨Nat.le_of_ble_eq_true rfl, Nat.le_of_ble_eq_true rfl⟩ hl rfl rfl (Nat.le_of_ble_eq_true rfl) dX13_findsDoor_115 ⟨Nat.le_of_ble_eq_true rfl, Nat.le_of_ble_eq_true rfl⟩ (fun z40388 F9 H locs hT hz40388 => ?_)
                obtain ⟨fz40388, hz40388, xz40388_0⟩ := hz40388
                rw [fz40388] at hT
                have k40389 : (2 : Int32).toInt = 2 := by decide
                refine t_ild X hT m1 g1 rfl (by omega) dX13_findsDoor_118 (fun z40390 vz40390 rz40390 => ?_)
                have oz40390 := rz40390
                have rz40390 := rg_all z40390
                refine t_cSi (n := 3) (As := [.int z40382, .int z40386, .int z40390]) (rest := [.int z40381, .int z40334]) X hT (km144_X13_frontPlace l G tag L F hT.2.2.2 z40382 z40386 z40390 ) qw_944 qw_945 qw_5 qw_946 ⟨by decide +kernel, by decide +kernel, by decide +kernel⟩ ⟨Nat.le_of_ble_eq_true rfl, Nat.le_of_ble_eq_true rfl⟩ hl rfl rfl (Nat.le_of_ble_eq_true rfl) dX13_findsDoor_119 ⟨Nat.le_of_ble_eq_true rfl, Nat.le_of_ble_eq_true rfl⟩ (fun z40391 F9 H locs hT hz40391 => ?_)
                obtain ⟨fz40391, hz40391⟩ := hz40391
                rw [fz40391] at hT
                refine t_cSi (n := 3) (As := [.int z40334, .int z40381, .int z40391]) (rest := []) X hT (km145_X13_roundOf l G tag L F hT.2.2.2 z40334 z40381 z40391 ) qw_947 qw_948 qw_5 qw_949 ⟨by decide +kernel, by decide +kernel, by decide +kernel⟩ ⟨Nat.le_of_ble_eq_true rfl, Nat.le_of_ble_eq_true rfl⟩ hl rfl rfl (Nat.le_of_ble_eq_true rfl) dX13_findsDoor_122 ⟨Nat.le_of_ble_eq_true rfl, Nat.le_of_ble_eq_true rfl⟩ (fun z40392 F9 H locs hT hz40392 => ?_)
                obtain ⟨fz40392, hz40392⟩ := hz40392
                rw [fz40392] at hT
                exact K125 z40392 z40341 _ _ _ _ (by omega) (by omega) hT hfr pf0 qz40341 (by omega) (lv_sub hl [0, 1, 2, 3, 4, 5, 6] rfl)
              · have w40393 := cv_eq (rfl : z40334.toInt = z40334.toInt) (by decide : (1 : Int32).toInt = 1) c40379
                refine lv_iconst (v := 0) hx hb dX13_findsDoor_83 (by decide) ?_
                refine lv_goto (tgt := 125) hx hb dX13_findsDoor_84 (by decide) ?_
                have k40394 : (0 : Int32).toInt = 0 := by decide
                exact K125 0 z40341 _ _ _ _ (by omega) (by omega) hT hfr pf0 qz40341 (by omega) (lv_sub hl [0, 1, 2, 3, 4, 5, 6] rfl)
            · have w40395 := cv_eq (rfl : z40376.toInt = z40376.toInt) (by decide : (0 : Int32).toInt = 0) c40377
              refine lv_goto (tgt := 180) hx hb dX13_findsDoor_75 (by decide) ?_
              exact K180 z40338 z40341 _ _ _ _ (by omega) (by omega) hT hfr pf0 qz40341 (by omega) (lv_sub hl [0, 1, 2, 3, 4, 5, 6] rfl)
      refine lv_iload hx hb dX13_findsDoor_39 (lv_at hl 5 rfl) ?_
      refine lv_iconst (v := 4) hx hb dX13_findsDoor_41 (by decide) ?_
      refine lv_icmp_ge (tgt := 192) hx hb dX13_findsDoor_42 (by decide) (fun c40396 => ?_) (fun c40396 => ?_)
      · have w40397 := cv_le (by decide : (4 : Int32).toInt = 4) (rfl : z40336.toInt = z40336.toInt) c40396
        refine lv_iload hx hb dX13_findsDoor_192 (lv_at hl 4 rfl) ?_
        refine lv_bipush (v := (-2)) hx hb dX13_findsDoor_194 (by decide) ?_
        refine lv_icmp_eq (tgt := 203) hx hb dX13_findsDoor_196 (by decide) (fun c40398 => ?_) (fun c40398 => ?_)
        · have w40399 := cv_eq (rfl : z40335.toInt = z40335.toInt) (by decide : ((-2) : Int32).toInt = (-2)) c40398
          refine lv_iconst (v := 0) hx hb dX13_findsDoor_203 (by decide) ?_
          have k40400 : (0 : Int32).toInt = 0 := by decide
          exact t_zret hQ X hT (by decide) (⟨(by decide), hfr, (by omega)⟩) (Nat.le_of_ble_eq_true rfl) (Nat.le_of_ble_eq_true rfl) dX13_findsDoor_204
        · have w40401 := cv_ne (rfl : z40335.toInt = z40335.toInt) (by decide : ((-2) : Int32).toInt = (-2)) c40398
          refine lv_iconst (v := 1) hx hb dX13_findsDoor_199 (by decide) ?_
          refine lv_goto (tgt := 204) hx hb dX13_findsDoor_200 (by decide) ?_
          have k40402 : (1 : Int32).toInt = 1 := by decide
          exact t_zret hQ X hT (by decide) (⟨(by decide), hfr, (by omega)⟩) (Nat.le_of_ble_eq_true rfl) (Nat.le_of_ble_eq_true rfl) dX13_findsDoor_204
      · have w40403 := cv_nle (by decide : (4 : Int32).toInt = 4) (rfl : z40336.toInt = z40336.toInt) c40396
        refine lv_iconst (v := 0) hx hb dX13_findsDoor_45 (by decide) ?_
        refine lv_istore (lv' := [(6, .int 0), (0, .ref p0), (1, .ref p1), (2, .int p2), (3, .int z40334), (4, .int z40335), (5, .int z40336)]) hx hb dX13_findsDoor_46 hl (by decide) rfl (fun ls hl => ?_)
        have k40404 : (0 : Int32).toInt = 0 := by decide
        exact K48 12 z40335 0 z40337 _ _ _ _ (by omega) (by decide) (by omega) (by omega) hT hfr pf0 qz40337 (by omega) (lv_sub hl [1, 2, 3, 4, 5, 6, 0] rfl)
  refine lv_aload_n hx hb dX13_findsDoor_0 rfl (lv_at hl 1 rfl) ?_
  refine lv_iconst (v := 0) hx hb dX13_findsDoor_1 (by decide) ?_
  refine lv_iload_n hx hb dX13_findsDoor_2 rfl (lv_at hl 2 rfl) ?_
  refine lv_iadd hx hb dX13_findsDoor_3 ?_
  refine lv_topi (fun z40405 ez40405 => ?_)
  obtain rfl : p2 = z40405 := (ar_zadd ez40405).symm
  refine t_ild X hT m1 g1 rfl (by omega) dX13_findsDoor_4 (fun z40406 vz40406 rz40406 => ?_)
  obtain rfl : x1 = z40406 := pf1.symm.trans vz40406
  refine lv_bipush (v := 6) hx hb dX13_findsDoor_5 (by decide) ?_
  refine lv_icmp_eq (tgt := 22) hx hb dX13_findsDoor_7 (by decide) (fun c40407 => ?_) (fun c40407 => ?_)
  · have w40408 := cv_eq (rfl : x1.toInt = x1.toInt) (by decide : (6 : Int32).toInt = 6) c40407
    refine lv_iconst (v := 0) hx hb dX13_findsDoor_22 (by decide) ?_
    have k40409 : (0 : Int32).toInt = 0 := by decide
    exact t_zret hQ X hT (by decide) (⟨(by decide), hfr, (by omega)⟩) (Nat.le_of_ble_eq_true rfl) (Nat.le_of_ble_eq_true rfl) dX13_findsDoor_23
  · have w40410 := cv_ne (rfl : x1.toInt = x1.toInt) (by decide : (6 : Int32).toInt = 6) c40407
    refine lv_aload_n hx hb dX13_findsDoor_10 rfl (lv_at hl 0 rfl) ?_
    refine t_get (C := RX13) (T := TX13) (N := 37) X hT m0 g0 rfl rfl 3 (by decide) qw_481 inlX13 rfl dX13_findsDoor_11 (fun v40411 hv40411 ov40411 => ?_)
    obtain rfl : v40411 = .ref x0 := hv40411.symm.trans pf0
    refine lv_aload_n hx hb dX13_findsDoor_14 rfl (lv_at hl 1 rfl) ?_
    refine lv_iload_n hx hb dX13_findsDoor_15 rfl (lv_at hl 2 rfl) ?_
    refine t_cSi (n := 3) (As := [.ref x0, .ref p1, .int p2]) (rest := []) X hT (km138_X13_fitsIn l G tag L F hT.2.2.2 x0 p1 p2 mx0 gx0 m1 g1 (by omega)) qw_644 qw_645 qw_5 qw_646 ⟨by decide +kernel, by decide +kernel, by decide +kernel⟩ ⟨Nat.le_of_ble_eq_true rfl, Nat.le_of_ble_eq_true rfl⟩ hl rfl rfl (Nat.le_of_ble_eq_true rfl) dX13_findsDoor_16 ⟨Nat.le_of_ble_eq_true rfl, Nat.le_of_ble_eq_true rfl⟩ (fun z40412 F9 H locs hT hz40412 => ?_)
    obtain ⟨fz40412, hz40412⟩ := hz40412
    rw [fz40412] at hT
    refine lv_if_ne (tgt := 24) hx hb dX13_findsDoor_19 (by decide) (fun c40413 => ?_) (fun c40413 => ?_)
    · have w40414 := cv_ne (rfl : z40412.toInt = z40412.toInt) (by decide : (0 : Int32).toInt = 0) c40413
      refine lv_aload_n hx hb dX13_findsDoor_24 rfl (lv_at hl 1 rfl) ?_
      refine lv_iconst (v := 0) hx hb dX13_findsDoor_25 (by decide) ?_
      refine lv_iload_n hx hb dX13_findsDoor_26 rfl (lv_at hl 2 rfl) ?_
      refine lv_iadd hx hb dX13_findsDoor_27 ?_
      refine lv_topi (fun z40415 ez40415 => ?_)
      obtain rfl : p2 = z40415 := (ar_zadd ez40415).symm
      refine t_ild X hT m1 g1 rfl (by omega) dX13_findsDoor_28 (fun z40416 vz40416 rz40416 => ?_)
      obtain rfl : x1 = z40416 := pf1.symm.trans vz40416
      refine lv_iconst (v := 1) hx hb dX13_findsDoor_29 (by decide) ?_
      refine lv_iadd hx hb dX13_findsDoor_30 ?_
      refine lv_topi (fun z40417 ez40417 => ?_)
      have hz40417 : z40417.toInt = x1.toInt + 1 := ar_add ez40417 (rfl : x1.toInt = x1.toInt) (by decide : (1 : Int32).toInt = 1) (by omega) (by omega)
      have rz40417 : 1 ≤ z40417.toInt ∧ z40417.toInt ≤ 6 := by omega
      refine lv_istore_n (lv' := [(3, .int z40417), (0, .ref p0), (1, .ref p1), (2, .int p2)]) hx hb dX13_findsDoor_31 rfl hl (by decide) rfl (fun ls hl => ?_)
      refine lv_bipush (v := (-2)) hx hb dX13_findsDoor_32 (by decide) ?_
      refine lv_istore (lv' := [(4, .int (-2)), (3, .int z40417), (0, .ref p0), (1, .ref p1), (2, .int p2)]) hx hb dX13_findsDoor_34 hl (by decide) rfl (fun ls hl => ?_)
      refine lv_iconst (v := 0) hx hb dX13_findsDoor_36 (by decide) ?_
      refine lv_istore (lv' := [(5, .int 0), (4, .int (-2)), (3, .int z40417), (0, .ref p0), (1, .ref p1), (2, .int p2)]) hx hb dX13_findsDoor_37 hl (by decide) rfl (fun ls hl => ?_)
      have k40418 : ((-2) : Int32).toInt = (-2) := by decide
      have k40419 : (0 : Int32).toInt = 0 := by decide
      exact K39 5 z40417 (-2) 0 x1 _ _ _ _ (by omega) (by omega) (by decide) (by omega) hT hfr pf0 pf1 (by omega) (lv_sub hl [3, 4, 5, 2, 1, 0] rfl)
    · have w40420 := cv_eq (rfl : z40412.toInt = z40412.toInt) (by decide : (0 : Int32).toInt = 0) c40413
      refine lv_iconst (v := 0) hx hb dX13_findsDoor_22 (by decide) ?_
      have k40421 : (0 : Int32).toInt = 0 := by decide
      exact t_zret hQ X hT (by decide) (⟨(by decide), hfr, (by omega)⟩) (Nat.le_of_ble_eq_true rfl) (Nat.le_of_ble_eq_true rfl) dX13_findsDoor_23
set_option maxHeartbeats 4000000 in
set_option maxRecDepth 100000 in
theorem km147_X13_door (l : Launch) (G : KG) (tag : Nat → Nat) (L : List Nat) (Fo : Nat → va_E) (ho : okT G ttC tag L Fo) (p0 : Nat) (p1 : Int32) (x0 : Nat) (m0 : p0 ∈ L) (g0 : tag p0 = 46) (mx0 : x0 ∈ L) (gx0 : tag x0 = 45) (pf0 : fld Fo p0 3 = .ref x0) : TMi l yX13_door cX13_door 2 (some .int) { frames := 5, cells := 0, slots := 0, locals := 125 } G ttC tag L Fo [.ref p0, .int p1] (fun r F1 => ((-2147483648) ≤ r.toInt ∧ r.toInt ≤ 2147483647) ∧ ((∀ b j : Nat, (tag b ≠ 46 ∨ j ≠ 0) → (tag b ≠ 46 ∨ j ≠ 1) → (tag b ≠ 46 ∨ j ≠ 2) → (tag b ≠ 46 ∨ j ≠ 22) → (tag b ≠ 46 ∨ j ≠ 23) → fld F1 b j = fld Fo b j) ∧ (∀ b j : Nat, elm F1 b j = elm Fo b j))) := by
  refine t_bodyi (y := yX13_door) (cd := cX13_door) (mL := 2) (rt := (some .int)) (rm := { frames := 5, cells := 0, slots := 0, locals := 125 }) (av := [.ref p0, .int p1]) (by decide) (Nat.le_of_ble_eq_true rfl) ho ?_
  intro p e s m args below meth c ls A Q hQ X hT hl
  have hx := X.1.1
  have hb := X.1.2.1
  have hl : lv_has ls 2 [(0, .ref p0), (1, .int p1)] := hl
  have rp1 := rg_all p1
  obtain ⟨F, hFo⟩ : ∃ F : Nat → va_E, F = Fo := ⟨_, rfl⟩
  rw [← hFo] at hT pf0
  have hfr : (∀ b j : Nat, (tag b ≠ 46 ∨ j ≠ 0) → (tag b ≠ 46 ∨ j ≠ 1) → (tag b ≠ 46 ∨ j ≠ 2) → (tag b ≠ 46 ∨ j ≠ 22) → (tag b ≠ 46 ∨ j ≠ 23) → fld F b j = fld Fo b j) ∧ (∀ b j : Nat, elm F b j = elm Fo b j) := by
    rw [hFo]
    exact ⟨by intros; rfl, by intros; rfl⟩
  have K49 : ∀ (z40658 : Int32) (z40659 : Int32) (F : Nat → va_E) (H : Heap) (locs : List Loc) (ls : Array Slot), (0 ≤ z40659.toInt ∧ z40659.toInt ≤ 0) → (0 ≤ p1.toInt ∧ p1.toInt ≤ 3) → TH G ttC A s tag L F H locs → ((∀ b j : Nat, (tag b ≠ 46 ∨ j ≠ 0) → (tag b ≠ 46 ∨ j ≠ 1) → (tag b ≠ 46 ∨ j ≠ 2) → (tag b ≠ 46 ∨ j ≠ 22) → (tag b ≠ 46 ∨ j ≠ 23) → fld F b j = fld Fo b j) ∧ (∀ b j : Nat, elm F b j = elm Fo b j)) → (fld F p0 3 = .ref x0) → (fld F p0 0 = .int z40659) → lv_has ls 2 [(0, .ref p0), (1, .int p1)] → W p l e { frames := 5, cells := 0, slots := 0, locals := 125 } s m args below meth c H locs 0 0 Q (F0 m 49 ls [.int z40658, .ref p0]) := by
    intro z40658 z40659 F H locs ls rz40659 r9s40657 hT hfr pf0 qz40659 hl
    have rz40658 := rg_all z40658
    refine t_cVi (n := 1) (C := RX13) (T := TX13) (N := 37) (As := [.int z40658]) (rest := []) X hT (km93_X13_good l G tag L F hT.2.2.2 p0 z40658 m0 g0) m0 g0 rfl rfl qw_687 qw_688 qw_689 qw_5 qw_690 ⟨rfl, by decide +kernel, by decide +kernel, by decide +kernel⟩ ⟨Nat.le_of_ble_eq_true rfl, Nat.le_of_ble_eq_true rfl⟩ hl rfl rfl (Nat.le_of_ble_eq_true rfl) dX13_door_49 ⟨Nat.le_of_ble_eq_true rfl, Nat.le_of_ble_eq_true rfl⟩ (fun z40660 F H locs hT hz40660 => ?_)
    obtain ⟨hz40660, yz40660⟩ := hz40660
    have qz40659 := (yz40660.1 _ 0 (Or.inr (by decide)) (Or.inr (by decide))).trans qz40659
    have pf0 := (yz40660.1 _ 3 (Or.inr (by decide)) (Or.inr (by decide))).trans pf0
    have hfr : (∀ b j : Nat, (tag b ≠ 46 ∨ j ≠ 0) → (tag b ≠ 46 ∨ j ≠ 1) → (tag b ≠ 46 ∨ j ≠ 2) → (tag b ≠ 46 ∨ j ≠ 22) → (tag b ≠ 46 ∨ j ≠ 23) → fld F b j = fld Fo b j) ∧ (∀ b j : Nat, elm F b j = elm Fo b j) := ⟨fun b j n46_0 n46_1 n46_2 n46_22 n46_23 => (yz40660.1 b j n46_1 n46_2).trans (hfr.1 b j n46_0 n46_1 n46_2 n46_22 n46_23), fun b j  => (yz40660.2 b j ).trans (hfr.2 b j )⟩
    exact t_iret hQ X hT (⟨rg_all _, hfr⟩) (Nat.le_of_ble_eq_true rfl) (Nat.le_of_ble_eq_true rfl) dX13_door_52
  refine lv_aload_n hx hb dX13_door_0 rfl (lv_at hl 0 rfl) ?_
  refine lv_iconst (v := 0) hx hb dX13_door_1 (by decide) ?_
  refine t_put (C := RX13) (T := TX13) (N := 37) (v := .int 0) X hT m0 g0 rfl tyX13 tyX13_ok nmX13 rfl 0 (by decide) qw_140 inlX13 rfl (by first | rfl | decide) (by first | rfl | decide) rfl (⟨_, rfl, (show (-2147483648) ≤ (0 : Int32).toInt from (by decide)), (show (0 : Int32).toInt ≤ 2147483647 from (by decide))⟩) dX13_door_2 (fun F H locs hT v40661 h1v40661 h2v40661 => ?_)
  have pf0 := (h1v40661 _ _ (Or.inr (by decide))).trans pf0
  have hfr : (∀ b j : Nat, (tag b ≠ 46 ∨ j ≠ 0) → (tag b ≠ 46 ∨ j ≠ 1) → (tag b ≠ 46 ∨ j ≠ 2) → (tag b ≠ 46 ∨ j ≠ 22) → (tag b ≠ 46 ∨ j ≠ 23) → fld F b j = fld Fo b j) ∧ (∀ b j : Nat, elm F b j = elm Fo b j) := ⟨fun b j n46_0 n46_1 n46_2 n46_22 n46_23 => (h1v40661 b j (fr_ne g0 n46_0)).trans (hfr.1 b j n46_0 n46_1 n46_2 n46_22 n46_23), fun b j  => (h2v40661 b j).trans (hfr.2 b j )⟩
  refine lv_aload_n hx hb dX13_door_5 rfl (lv_at hl 0 rfl) ?_
  refine lv_iload_n hx hb dX13_door_6 rfl (lv_at hl 1 rfl) ?_
  refine t_cVi (n := 1) (C := RX13) (T := TX13) (N := 37) (As := [.int p1]) (rest := []) X hT (km107_X13_isHouse l G tag L F hT.2.2.2 p0 p1 x0 m0 g0 mx0 gx0 pf0) m0 g0 rfl rfl qw_796 qw_797 qw_798 qw_5 qw_799 ⟨rfl, by decide +kernel, by decide +kernel, by decide +kernel⟩ ⟨Nat.le_of_ble_eq_true rfl, Nat.le_of_ble_eq_true rfl⟩ hl rfl rfl (Nat.le_of_ble_eq_true rfl) dX13_door_7 ⟨Nat.le_of_ble_eq_true rfl, Nat.le_of_ble_eq_true rfl⟩ (fun z40662 F9 H locs hT hz40662 => ?_)
  obtain ⟨fz40662, hz40662⟩ := hz40662
  rw [fz40662] at hT
  obtain ⟨hz40662, iz40662⟩ := hz40662
  refine lv_if_ne (tgt := 19) hx hb dX13_door_10 (by decide) (fun c40663 => ?_) (fun c40663 => ?_)
  · have w40664 := cv_ne (rfl : z40662.toInt = z40662.toInt) (by decide : (0 : Int32).toInt = 0) c40663
    have w40665 := (fun h => (iz40662 h)) (by omega)
    refine lv_aload_n hx hb dX13_door_19 rfl (lv_at hl 0 rfl) ?_
    refine lv_aload_n hx hb dX13_door_20 rfl (lv_at hl 0 rfl) ?_
    refine lv_aload_n hx hb dX13_door_21 rfl (lv_at hl 0 rfl) ?_
    refine t_get (C := RX13) (T := TX13) (N := 37) X hT m0 g0 rfl rfl 16 (by decide) qw_112 inlX13 rfl dX13_door_22 (fun v40666 hv40666 ov40666 => ?_)
    obtain ⟨b40667, rfl, mb40667, gb40667⟩ := okV_r ov40666
    have gb40667 : tag b40667 = 37 := tg_of gb40667
    refine lv_iload_n hx hb dX13_door_25 rfl (lv_at hl 1 rfl) ?_
    obtain ⟨z40668, qz40668, rz40668⟩ := t_elm hT mb40667 gb40667 rfl (i := p1) (by omega)
    have rz40668 := row_ml (by omega) rz40668
    have rz40668 : 0 ≤ z40668.toInt ∧ z40668.toInt ≤ 6 := rz40668
    refine t_cVi (n := 2) (C := RX13) (T := TX13) (N := 37) (As := [.ref b40667, .int p1]) (rest := [.ref p0]) X hT (km146_X13_findsDoor l G tag L F hT.2.2.2 p0 b40667 p1 x0 z40668 m0 g0 mb40667 gb40667 (by omega) mx0 gx0 pf0 (by omega) qz40668) m0 g0 rfl rfl qw_934 qw_935 qw_936 qw_5 qw_937 ⟨rfl, by decide +kernel, by decide +kernel, by decide +kernel⟩ ⟨Nat.le_of_ble_eq_true rfl, Nat.le_of_ble_eq_true rfl⟩ hl rfl rfl (Nat.le_of_ble_eq_true rfl) dX13_door_26 ⟨Nat.le_of_ble_eq_true rfl, Nat.le_of_ble_eq_true rfl⟩ (fun z40669 F H locs hT hz40669 => ?_)
    obtain ⟨hz40669, yz40669, xz40669_0⟩ := hz40669
    have pf0 := (yz40669.1 _ 3 (Or.inr (by decide)) (Or.inr (by decide))).trans pf0
    have v40661 := (yz40669.1 _ 0 (Or.inr (by decide)) (Or.inr (by decide))).trans v40661
    have hv40666 := (yz40669.1 _ 16 (Or.inr (by decide)) (Or.inr (by decide))).trans hv40666
    have qz40668 := (yz40669.2 _ _ ).trans qz40668
    have hfr : (∀ b j : Nat, (tag b ≠ 46 ∨ j ≠ 0) → (tag b ≠ 46 ∨ j ≠ 1) → (tag b ≠ 46 ∨ j ≠ 2) → (tag b ≠ 46 ∨ j ≠ 22) → (tag b ≠ 46 ∨ j ≠ 23) → fld F b j = fld Fo b j) ∧ (∀ b j : Nat, elm F b j = elm Fo b j) := ⟨fun b j n46_0 n46_1 n46_2 n46_22 n46_23 => (yz40669.1 b j n46_22 n46_23).trans (hfr.1 b j n46_0 n46_1 n46_2 n46_22 n46_23), fun b j  => (yz40669.2 b j ).trans (hfr.2 b j )⟩
    refine lv_if_eq (tgt := 47) hx hb dX13_door_29 (by decide) (fun c40670 => ?_) (fun c40670 => ?_)
    · have w40671 := cv_eq (rfl : z40669.toInt = z40669.toInt) (by decide : (0 : Int32).toInt = 0) c40670
      refine lv_bipush (v := (-2)) hx hb dX13_door_47 (by decide) ?_
      have k40672 : ((-2) : Int32).toInt = (-2) := by decide
      have k40673 : (0 : Int32).toInt = 0 := by decide
      exact K49 (-2) 0 _ _ _ _ (by decide) (by omega) hT hfr pf0 v40661 (lv_sub hl [0, 1] rfl)
    · have w40674 := cv_ne (rfl : z40669.toInt = z40669.toInt) (by decide : (0 : Int32).toInt = 0) c40670
      have w40675 := xz40669_0 (by omega)
      refine lv_bipush (v := 100) hx hb dX13_door_32 (by decide) ?_
      refine lv_aload_n hx hb dX13_door_34 rfl (lv_at hl 0 rfl) ?_
      refine t_get (C := RX13) (T := TX13) (N := 37) X hT m0 g0 rfl rfl 22 (by decide) qw_932 inlX13 rfl dX13_door_35 (fun v40676 hv40676 ov40676 => ?_)
      obtain ⟨z40677, rfl, rz40677⟩ := okV_i ov40676
      refine lv_imul hx hb dX13_door_38 ?_
      refine lv_topi (fun z40678 ez40678 => ?_)
      have rz40678 := rg_all z40678
      refine lv_aload_n hx hb dX13_door_39 rfl (lv_at hl 0 rfl) ?_
      refine t_get (C := RX13) (T := TX13) (N := 37) X hT m0 g0 rfl rfl 23 (by decide) qw_933 inlX13 rfl dX13_door_40 (fun v40679 hv40679 ov40679 => ?_)
      obtain ⟨z40680, rfl, rz40680⟩ := okV_i ov40679
      refine lv_iadd hx hb dX13_door_43 ?_
      refine lv_topi (fun z40681 ez40681 => ?_)
      have rz40681 := rg_all z40681
      refine lv_goto (tgt := 49) hx hb dX13_door_44 (by decide) ?_
      have k40682 : (0 : Int32).toInt = 0 := by decide
      exact K49 z40681 0 _ _ _ _ (by decide) (by omega) hT hfr pf0 v40661 (lv_sub hl [0, 1] rfl)
  · have w40683 := cv_eq (rfl : z40662.toInt = z40662.toInt) (by decide : (0 : Int32).toInt = 0) c40663
    refine lv_aload_n hx hb dX13_door_13 rfl (lv_at hl 0 rfl) ?_
    refine lv_iconst (v := 1) hx hb dX13_door_14 (by decide) ?_
    refine t_cVi (n := 1) (C := RX13) (T := TX13) (N := 37) (As := [.int 1]) (rest := []) X hT (km88_X13_refused l G tag L F hT.2.2.2 p0 1 m0 g0) m0 g0 rfl rfl qw_484 qw_485 qw_486 qw_5 qw_487 ⟨rfl, by decide +kernel, by decide +kernel, by decide +kernel⟩ ⟨Nat.le_of_ble_eq_true rfl, Nat.le_of_ble_eq_true rfl⟩ hl rfl rfl (Nat.le_of_ble_eq_true rfl) dX13_door_15 ⟨Nat.le_of_ble_eq_true rfl, Nat.le_of_ble_eq_true rfl⟩ (fun z40684 F H locs hT hz40684 => ?_)
    obtain ⟨hz40684, yz40684⟩ := hz40684
    have pf0 := (yz40684.1 _ 3 (Or.inr (by decide)) (Or.inr (by decide))).trans pf0
    have v40661 := (yz40684.1 _ 0 (Or.inr (by decide)) (Or.inr (by decide))).trans v40661
    have hfr : (∀ b j : Nat, (tag b ≠ 46 ∨ j ≠ 0) → (tag b ≠ 46 ∨ j ≠ 1) → (tag b ≠ 46 ∨ j ≠ 2) → (tag b ≠ 46 ∨ j ≠ 22) → (tag b ≠ 46 ∨ j ≠ 23) → fld F b j = fld Fo b j) ∧ (∀ b j : Nat, elm F b j = elm Fo b j) := ⟨fun b j n46_0 n46_1 n46_2 n46_22 n46_23 => (yz40684.1 b j n46_1 n46_2).trans (hfr.1 b j n46_0 n46_1 n46_2 n46_22 n46_23), fun b j  => (yz40684.2 b j ).trans (hfr.2 b j )⟩
    exact t_iret hQ X hT (⟨rg_all _, hfr⟩) (Nat.le_of_ble_eq_true rfl) (Nat.le_of_ble_eq_true rfl) dX13_door_18
