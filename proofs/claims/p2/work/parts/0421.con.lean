set_option maxHeartbeats 4000000 in
set_option maxRecDepth 100000 in
theorem km131_X13_light (l : Launch) (G : KG) (tag : Nat → Nat) (L : List Nat) (Fo : Nat → va_E) (ho : okT G ttC tag L Fo) (p0 : Nat) (p1 : Int32) (p2 : Int32) (m0 : p0 ∈ L) (g0 : tag p0 = 46) (pf0 : fld Fo p0 3 = .null) : TMi l yX13_light cX13_light 4 (some .int) { frames := 2, cells := 0, slots := 0, locals := 43 } G ttC tag L Fo [.ref p0, .int p1, .int p2] (fun r F1 => ((-2147483648) ≤ r.toInt ∧ r.toInt ≤ 2147483647) ∧ ((∀ b j : Nat, (tag b ≠ 46 ∨ j ≠ 0) → (tag b ≠ 46 ∨ j ≠ 1) → (tag b ≠ 46 ∨ j ≠ 2) → fld F1 b j = fld Fo b j) ∧ (∀ b j : Nat, elm F1 b j = elm Fo b j))) := by
  refine t_bodyi (y := yX13_light) (cd := cX13_light) (mL := 4) (rt := (some .int)) (rm := { frames := 2, cells := 0, slots := 0, locals := 43 }) (av := [.ref p0, .int p1, .int p2]) (by decide) (Nat.le_of_ble_eq_true rfl) ho ?_
  intro p e s m args below meth c ls A Q hQ X hT hl
  have hx := X.1.1
  have hb := X.1.2.1
  have hl : lv_has ls 4 [(0, .ref p0), (1, .int p1), (2, .int p2)] := hl
  have rp1 := rg_all p1
  have rp2 := rg_all p2
  obtain ⟨F, hFo⟩ : ∃ F : Nat → va_E, F = Fo := ⟨_, rfl⟩
  rw [← hFo] at hT pf0
  have hfr : (∀ b j : Nat, (tag b ≠ 46 ∨ j ≠ 0) → (tag b ≠ 46 ∨ j ≠ 1) → (tag b ≠ 46 ∨ j ≠ 2) → fld F b j = fld Fo b j) ∧ (∀ b j : Nat, elm F b j = elm Fo b j) := by
    rw [hFo]
    exact ⟨by intros; rfl, by intros; rfl⟩
  refine lv_aload_n hx hb dX13_light_0 rfl (lv_at hl 0 rfl) ?_
  refine lv_iconst (v := 0) hx hb dX13_light_1 (by decide) ?_
  refine t_put (C := RX13) (T := TX13) (N := 37) (v := .int 0) X hT m0 g0 rfl tyX13 tyX13_ok nmX13 rfl 0 (by decide) qw_140 inlX13 rfl (by first | rfl | decide) (by first | rfl | decide) rfl (⟨_, rfl, (show (-2147483648) ≤ (0 : Int32).toInt from (by decide)), (show (0 : Int32).toInt ≤ 2147483647 from (by decide))⟩) dX13_light_2 (fun F H locs hT v36463 h1v36463 h2v36463 => ?_)
  have pf0 := (h1v36463 _ _ (Or.inr (by decide))).trans pf0
  have hfr : (∀ b j : Nat, (tag b ≠ 46 ∨ j ≠ 0) → (tag b ≠ 46 ∨ j ≠ 1) → (tag b ≠ 46 ∨ j ≠ 2) → fld F b j = fld Fo b j) ∧ (∀ b j : Nat, elm F b j = elm Fo b j) := ⟨fun b j n46_0 n46_1 n46_2 => (h1v36463 b j (fr_ne g0 n46_0)).trans (hfr.1 b j n46_0 n46_1 n46_2), fun b j  => (h2v36463 b j).trans (hfr.2 b j )⟩
  refine lv_aload_n hx hb dX13_light_5 rfl (lv_at hl 0 rfl) ?_
  refine lv_iload_n hx hb dX13_light_6 rfl (lv_at hl 1 rfl) ?_
  refine lv_iload_n hx hb dX13_light_7 rfl (lv_at hl 2 rfl) ?_
  refine t_cVi (n := 2) (C := RX13) (T := TX13) (N := 37) (As := [.int p1, .int p2]) (rest := []) X hT (km127_X13_isDepth l G tag L F hT.2.2.2 p0 p1 p2 m0 g0 pf0) m0 g0 rfl rfl qw_865 qw_866 qw_867 qw_5 qw_868 ⟨rfl, by decide +kernel, by decide +kernel, by decide +kernel⟩ ⟨Nat.le_of_ble_eq_true rfl, Nat.le_of_ble_eq_true rfl⟩ hl rfl rfl (Nat.le_of_ble_eq_true rfl) dX13_light_8 ⟨Nat.le_of_ble_eq_true rfl, Nat.le_of_ble_eq_true rfl⟩ (fun z36464 F9 H locs hT hz36464 => ?_)
  obtain ⟨fz36464, hz36464⟩ := hz36464
  rw [fz36464] at hT
  refine lv_if_ne (tgt := 20) hx hb dX13_light_11 (by decide) (fun c36465 => ?_) (fun c36465 => ?_)
  · have w36466 := cv_ne (rfl : z36464.toInt = z36464.toInt) (by decide : (0 : Int32).toInt = 0) c36465
    exfalso
    omega
  · have w36467 := cv_eq (rfl : z36464.toInt = z36464.toInt) (by decide : (0 : Int32).toInt = 0) c36465
    refine lv_aload_n hx hb dX13_light_14 rfl (lv_at hl 0 rfl) ?_
    refine lv_iconst (v := 1) hx hb dX13_light_15 (by decide) ?_
    refine t_cVi (n := 1) (C := RX13) (T := TX13) (N := 37) (As := [.int 1]) (rest := []) X hT (km88_X13_refused l G tag L F hT.2.2.2 p0 1 m0 g0) m0 g0 rfl rfl qw_484 qw_485 qw_486 qw_5 qw_487 ⟨rfl, by decide +kernel, by decide +kernel, by decide +kernel⟩ ⟨Nat.le_of_ble_eq_true rfl, Nat.le_of_ble_eq_true rfl⟩ hl rfl rfl (Nat.le_of_ble_eq_true rfl) dX13_light_16 ⟨Nat.le_of_ble_eq_true rfl, Nat.le_of_ble_eq_true rfl⟩ (fun z36468 F H locs hT hz36468 => ?_)
    obtain ⟨hz36468, yz36468⟩ := hz36468
    have pf0 := (yz36468.1 _ 3 (Or.inr (by decide)) (Or.inr (by decide))).trans pf0
    have v36463 := (yz36468.1 _ 0 (Or.inr (by decide)) (Or.inr (by decide))).trans v36463
    have hfr : (∀ b j : Nat, (tag b ≠ 46 ∨ j ≠ 0) → (tag b ≠ 46 ∨ j ≠ 1) → (tag b ≠ 46 ∨ j ≠ 2) → fld F b j = fld Fo b j) ∧ (∀ b j : Nat, elm F b j = elm Fo b j) := ⟨fun b j n46_0 n46_1 n46_2 => (yz36468.1 b j n46_1 n46_2).trans (hfr.1 b j n46_0 n46_1 n46_2), fun b j  => (yz36468.2 b j ).trans (hfr.2 b j )⟩
    exact t_iret hQ X hT (⟨rg_all _, hfr⟩) (Nat.le_of_ble_eq_true rfl) (Nat.le_of_ble_eq_true rfl) dX13_light_19
theorem kp_X13_light (l : Launch) (G : KG) (tag : Nat → Nat) (L : List Nat) (Fo : Nat → va_E) (ho : okT G ttC tag L Fo) (p0 : Nat) (p1 : Int32) (p2 : Int32) (m0 : p0 ∈ L) (g0 : tag p0 = 46) : TMi l yX13_light cX13_light 4 (some .int) { frames := 2, cells := 0, slots := 0, locals := 43 } G ttC tag L Fo [.ref p0, .int p1, .int p2] (fun r F1 => ((-2147483648) ≤ r.toInt ∧ r.toInt ≤ 2147483647) ∧ ((∀ b j : Nat, (tag b ≠ 46 ∨ j ≠ 0) → (tag b ≠ 46 ∨ j ≠ 1) → (tag b ≠ 46 ∨ j ≠ 2) → fld F1 b j = fld Fo b j) ∧ (∀ b j : Nat, elm F1 b j = elm Fo b j))) := by
  rcases t_fldn ho m0 g0 rfl 3 rfl with h9 | ⟨b9, h9, m9, t9⟩
  · exact km131_X13_light l G tag L Fo ho p0 p1 p2  m0 g0 h9 
  · exact km130_X13_light l G tag L Fo ho p0 p1 p2 b9  m0 g0 m9 (tg_of t9) h9 
set_option maxHeartbeats 4000000 in
set_option maxRecDepth 100000 in
theorem km133_X13_isHeir (l : Launch) (G : KG) (tag : Nat → Nat) (L : List Nat) (F : Nat → va_E) (ho : okT G ttC tag L F) (p0 : Nat) (p1 : Int32) (x0 : Nat) (m0 : p0 ∈ L) (g0 : tag p0 = 46) (mx0 : x0 ∈ L) (gx0 : tag x0 = 45) (pf0 : fld F p0 3 = .ref x0) : TMi l yX13_isHeir cX13_isHeir 2 (some .boolean) { frames := 0, cells := 0, slots := 0, locals := 0 } G ttC tag L F [.ref p0, .int p1] (fun r F1 => F1 = F ∧ ((0 ≤ r.toInt ∧ r.toInt ≤ 1) ∧ (r.toInt ≠ 0 → (0 ≤ p1.toInt ∧ p1.toInt ≤ 5)))) := by
  refine t_bodyi (y := yX13_isHeir) (cd := cX13_isHeir) (mL := 2) (rt := (some .boolean)) (rm := { frames := 0, cells := 0, slots := 0, locals := 0 }) (av := [.ref p0, .int p1]) (by decide) (Nat.le_of_ble_eq_true rfl) ho ?_
  intro p e s m args below meth c ls A Q hQ X hT hl
  have hx := X.1.1
  have hb := X.1.2.1
  have hl : lv_has ls 2 [(0, .ref p0), (1, .int p1)] := hl
  have rp1 := rg_all p1
  refine lv_aload_n hx hb dX13_isHeir_0 rfl (lv_at hl 0 rfl) ?_
  refine t_get (C := RX13) (T := TX13) (N := 37) X hT m0 g0 rfl rfl 3 (by decide) qw_481 inlX13 rfl dX13_isHeir_1 (fun v36580 hv36580 ov36580 => ?_)
  obtain rfl : v36580 = .ref x0 := hv36580.symm.trans pf0
  refine lv_ifnull hx hb dX13_isHeir_4 ?_
  refine lv_iload_n hx hb dX13_isHeir_7 rfl (lv_at hl 1 rfl) ?_
  refine lv_if_lt (tgt := 26) hx hb dX13_isHeir_8 (by decide) (fun c36581 => ?_) (fun c36581 => ?_)
  · have w36582 := cv_lt (rfl : p1.toInt = p1.toInt) (by decide : (0 : Int32).toInt = 0) c36581
    refine lv_iconst (v := 0) hx hb dX13_isHeir_26 (by decide) ?_
    have k36583 : (0 : Int32).toInt = 0 := by decide
    exact t_zret hQ X hT (by decide) (⟨rfl, ⟨(by decide), fun h => absurd (by decide) h⟩⟩) (Nat.le_of_ble_eq_true rfl) (Nat.le_of_ble_eq_true rfl) dX13_isHeir_27
  · have w36584 := cv_nlt (rfl : p1.toInt = p1.toInt) (by decide : (0 : Int32).toInt = 0) c36581
    refine lv_iload_n hx hb dX13_isHeir_11 rfl (lv_at hl 1 rfl) ?_
    refine lv_aload_n hx hb dX13_isHeir_12 rfl (lv_at hl 0 rfl) ?_
    refine t_get (C := RX13) (T := TX13) (N := 37) X hT m0 g0 rfl rfl 3 (by decide) qw_481 inlX13 rfl dX13_isHeir_13 (fun v36585 hv36585 ov36585 => ?_)
    obtain rfl : v36585 = .ref x0 := hv36585.symm.trans pf0
    refine t_getN (C := RX12) (T := TX12) (N := 31) X hT mx0 gx0 rfl rfl 9 (by decide) (List.mem_of_getElem? (i := 13) rfl) inlX12 rfl dX13_isHeir_16 (fun v36586 hv36586 ov36586 => ?_)
    obtain ⟨z36587, rfl, rz36587⟩ := okV_i ov36586
    refine lv_icmp_ge (tgt := 26) hx hb dX13_isHeir_19 (by decide) (fun c36588 => ?_) (fun c36588 => ?_)
    · have w36589 := cv_le (rfl : z36587.toInt = z36587.toInt) (rfl : p1.toInt = p1.toInt) c36588
      refine lv_iconst (v := 0) hx hb dX13_isHeir_26 (by decide) ?_
      have k36590 : (0 : Int32).toInt = 0 := by decide
      exact t_zret hQ X hT (by decide) (⟨rfl, ⟨(by decide), fun h => absurd (by decide) h⟩⟩) (Nat.le_of_ble_eq_true rfl) (Nat.le_of_ble_eq_true rfl) dX13_isHeir_27
    · have w36591 := cv_nle (rfl : z36587.toInt = z36587.toInt) (rfl : p1.toInt = p1.toInt) c36588
      refine lv_iconst (v := 1) hx hb dX13_isHeir_22 (by decide) ?_
      refine lv_goto (tgt := 27) hx hb dX13_isHeir_23 (by decide) ?_
      have k36592 : (1 : Int32).toInt = 1 := by decide
      exact t_zret hQ X hT (by decide) (⟨rfl, ⟨(by decide), fun _ => by omega⟩⟩) (Nat.le_of_ble_eq_true rfl) (Nat.le_of_ble_eq_true rfl) dX13_isHeir_27
set_option maxHeartbeats 4000000 in
set_option maxRecDepth 100000 in
theorem km134_X13_heir (l : Launch) (G : KG) (tag : Nat → Nat) (L : List Nat) (Fo : Nat → va_E) (ho : okT G ttC tag L Fo) (p0 : Nat) (p1 : Int32) (p2 : Int32) (x0 : Nat) (m0 : p0 ∈ L) (g0 : tag p0 = 46) (mx0 : x0 ∈ L) (gx0 : tag x0 = 45) (pf0 : fld Fo p0 3 = .ref x0) : TMi l yX13_heir cX13_heir 3 (some .int) { frames := 2, cells := 0, slots := 0, locals := 46 } G ttC tag L Fo [.ref p0, .int p1, .int p2] (fun r F1 => ((-2147483648) ≤ r.toInt ∧ r.toInt ≤ 2147483647) ∧ ((∀ b j : Nat, (tag b ≠ 46 ∨ j ≠ 0) → (tag b ≠ 46 ∨ j ≠ 1) → (tag b ≠ 46 ∨ j ≠ 2) → fld F1 b j = fld Fo b j) ∧ (∀ b j : Nat, elm F1 b j = elm Fo b j))) := by
  refine t_bodyi (y := yX13_heir) (cd := cX13_heir) (mL := 3) (rt := (some .int)) (rm := { frames := 2, cells := 0, slots := 0, locals := 46 }) (av := [.ref p0, .int p1, .int p2]) (by decide) (Nat.le_of_ble_eq_true rfl) ho ?_
  intro p e s m args below meth c ls A Q hQ X hT hl
  have hx := X.1.1
  have hb := X.1.2.1
  have hl : lv_has ls 3 [(0, .ref p0), (1, .int p1), (2, .int p2)] := hl
  have rp1 := rg_all p1
  have rp2 := rg_all p2
  obtain ⟨F, hFo⟩ : ∃ F : Nat → va_E, F = Fo := ⟨_, rfl⟩
  rw [← hFo] at hT pf0
  have hfr : (∀ b j : Nat, (tag b ≠ 46 ∨ j ≠ 0) → (tag b ≠ 46 ∨ j ≠ 1) → (tag b ≠ 46 ∨ j ≠ 2) → fld F b j = fld Fo b j) ∧ (∀ b j : Nat, elm F b j = elm Fo b j) := by
    rw [hFo]
    exact ⟨by intros; rfl, by intros; rfl⟩
  refine lv_aload_n hx hb dX13_heir_0 rfl (lv_at hl 0 rfl) ?_
  refine lv_iconst (v := 0) hx hb dX13_heir_1 (by decide) ?_
  refine t_put (C := RX13) (T := TX13) (N := 37) (v := .int 0) X hT m0 g0 rfl tyX13 tyX13_ok nmX13 rfl 0 (by decide) qw_140 inlX13 rfl (by first | rfl | decide) (by first | rfl | decide) rfl (⟨_, rfl, (show (-2147483648) ≤ (0 : Int32).toInt from (by decide)), (show (0 : Int32).toInt ≤ 2147483647 from (by decide))⟩) dX13_heir_2 (fun F H locs hT v37043 h1v37043 h2v37043 => ?_)
  have pf0 := (h1v37043 _ _ (Or.inr (by decide))).trans pf0
  have hfr : (∀ b j : Nat, (tag b ≠ 46 ∨ j ≠ 0) → (tag b ≠ 46 ∨ j ≠ 1) → (tag b ≠ 46 ∨ j ≠ 2) → fld F b j = fld Fo b j) ∧ (∀ b j : Nat, elm F b j = elm Fo b j) := ⟨fun b j n46_0 n46_1 n46_2 => (h1v37043 b j (fr_ne g0 n46_0)).trans (hfr.1 b j n46_0 n46_1 n46_2), fun b j  => (h2v37043 b j).trans (hfr.2 b j )⟩
  refine lv_aload_n hx hb dX13_heir_5 rfl (lv_at hl 0 rfl) ?_
  refine lv_iload_n hx hb dX13_heir_6 rfl (lv_at hl 1 rfl) ?_
  refine t_cVi (n := 1) (C := RX13) (T := TX13) (N := 37) (As := [.int p1]) (rest := []) X hT (km133_X13_isHeir l G tag L F hT.2.2.2 p0 p1 x0 m0 g0 mx0 gx0 pf0) m0 g0 rfl rfl qw_896 qw_897 qw_898 qw_5 qw_899 ⟨rfl, by decide +kernel, by decide +kernel, by decide +kernel⟩ ⟨Nat.le_of_ble_eq_true rfl, Nat.le_of_ble_eq_true rfl⟩ hl rfl rfl (Nat.le_of_ble_eq_true rfl) dX13_heir_7 ⟨Nat.le_of_ble_eq_true rfl, Nat.le_of_ble_eq_true rfl⟩ (fun z37044 F9 H locs hT hz37044 => ?_)
  obtain ⟨fz37044, hz37044⟩ := hz37044
  rw [fz37044] at hT
  obtain ⟨hz37044, iz37044⟩ := hz37044
  refine lv_if_eq (tgt := 22) hx hb dX13_heir_10 (by decide) (fun c37045 => ?_) (fun c37045 => ?_)
  · have w37046 := cv_eq (rfl : z37044.toInt = z37044.toInt) (by decide : (0 : Int32).toInt = 0) c37045
    refine lv_aload_n hx hb dX13_heir_22 rfl (lv_at hl 0 rfl) ?_
    refine lv_iconst (v := 1) hx hb dX13_heir_23 (by decide) ?_
    refine t_cVi (n := 1) (C := RX13) (T := TX13) (N := 37) (As := [.int 1]) (rest := []) X hT (km88_X13_refused l G tag L F hT.2.2.2 p0 1 m0 g0) m0 g0 rfl rfl qw_484 qw_485 qw_486 qw_5 qw_487 ⟨rfl, by decide +kernel, by decide +kernel, by decide +kernel⟩ ⟨Nat.le_of_ble_eq_true rfl, Nat.le_of_ble_eq_true rfl⟩ hl rfl rfl (Nat.le_of_ble_eq_true rfl) dX13_heir_24 ⟨Nat.le_of_ble_eq_true rfl, Nat.le_of_ble_eq_true rfl⟩ (fun z37047 F H locs hT hz37047 => ?_)
    obtain ⟨hz37047, yz37047⟩ := hz37047
    have pf0 := (yz37047.1 _ 3 (Or.inr (by decide)) (Or.inr (by decide))).trans pf0
    have v37043 := (yz37047.1 _ 0 (Or.inr (by decide)) (Or.inr (by decide))).trans v37043
    have hfr : (∀ b j : Nat, (tag b ≠ 46 ∨ j ≠ 0) → (tag b ≠ 46 ∨ j ≠ 1) → (tag b ≠ 46 ∨ j ≠ 2) → fld F b j = fld Fo b j) ∧ (∀ b j : Nat, elm F b j = elm Fo b j) := ⟨fun b j n46_0 n46_1 n46_2 => (yz37047.1 b j n46_1 n46_2).trans (hfr.1 b j n46_0 n46_1 n46_2), fun b j  => (yz37047.2 b j ).trans (hfr.2 b j )⟩
    exact t_iret hQ X hT (⟨rg_all _, hfr⟩) (Nat.le_of_ble_eq_true rfl) (Nat.le_of_ble_eq_true rfl) dX13_heir_27
  · have w37048 := cv_ne (rfl : z37044.toInt = z37044.toInt) (by decide : (0 : Int32).toInt = 0) c37045
    have w37049 := (fun h => (iz37044 h)) (by omega)
    refine lv_iload_n hx hb dX13_heir_13 rfl (lv_at hl 2 rfl) ?_
    refine lv_iconst (v := 0) hx hb dX13_heir_14 (by decide) ?_
    refine lv_iconst (v := 2) hx hb dX13_heir_15 (by decide) ?_
    refine t_cSi (n := 3) (As := [.int p2, .int 0, .int 2]) (rest := []) X hT (km19_X13_within l G tag L F hT.2.2.2 p2 0 2 ) qw_568 qw_569 qw_5 qw_570 ⟨by decide +kernel, by decide +kernel, by decide +kernel⟩ ⟨Nat.le_of_ble_eq_true rfl, Nat.le_of_ble_eq_true rfl⟩ hl rfl rfl (Nat.le_of_ble_eq_true rfl) dX13_heir_16 ⟨Nat.le_of_ble_eq_true rfl, Nat.le_of_ble_eq_true rfl⟩ (fun z37050 F9 H locs hT hz37050 => ?_)
    obtain ⟨fz37050, hz37050, xz37050_0⟩ := hz37050
    rw [fz37050] at hT
    have k37051 : (0 : Int32).toInt = 0 := by decide
    have k37052 : (2 : Int32).toInt = 2 := by decide
    refine lv_if_ne (tgt := 28) hx hb dX13_heir_19 (by decide) (fun c37053 => ?_) (fun c37053 => ?_)
    · have w37054 := cv_ne (rfl : z37050.toInt = z37050.toInt) (by decide : (0 : Int32).toInt = 0) c37053
      have w37055 := xz37050_0 (by omega)
      refine lv_aload_n hx hb dX13_heir_28 rfl (lv_at hl 0 rfl) ?_
      refine lv_iload_n hx hb dX13_heir_29 rfl (lv_at hl 2 rfl) ?_
      refine lv_if_ne (tgt := 45) hx hb dX13_heir_30 (by decide) (fun c37056 => ?_) (fun c37056 => ?_)
      · have w37057 := cv_ne (rfl : p2.toInt = p2.toInt) (by decide : (0 : Int32).toInt = 0) c37056
        refine lv_iload_n hx hb dX13_heir_45 rfl (lv_at hl 2 rfl) ?_
        refine lv_iconst (v := 1) hx hb dX13_heir_46 (by decide) ?_
        refine lv_icmp_ne (tgt := 63) hx hb dX13_heir_47 (by decide) (fun c37058 => ?_) (fun c37058 => ?_)
        · have w37059 := cv_ne (rfl : p2.toInt = p2.toInt) (by decide : (1 : Int32).toInt = 1) c37058
          refine lv_aload_n hx hb dX13_heir_63 rfl (lv_at hl 0 rfl) ?_
          refine lv_aload_n hx hb dX13_heir_64 rfl (lv_at hl 0 rfl) ?_
          refine t_get (C := RX13) (T := TX13) (N := 37) X hT m0 g0 rfl rfl 3 (by decide) qw_481 inlX13 rfl dX13_heir_65 (fun v37060 hv37060 ov37060 => ?_)
          obtain rfl : v37060 = .ref x0 := hv37060.symm.trans pf0
          refine t_getN (C := RX12) (T := TX12) (N := 31) X hT mx0 gx0 rfl rfl 23 (by decide) (List.mem_of_getElem? (i := 27) rfl) inlX12 rfl dX13_heir_68 (fun v37061 hv37061 ov37061 => ?_)
          obtain ⟨b37062, rfl, mb37062, gb37062⟩ := okV_r ov37061
          have gb37062 : tag b37062 = 32 := tg_of gb37062
          refine lv_iload_n hx hb dX13_heir_71 rfl (lv_at hl 1 rfl) ?_
          refine t_ild X hT mb37062 gb37062 rfl (by omega) dX13_heir_72 (fun z37063 vz37063 rz37063 => ?_)
          have rz37063 : 0 ≤ z37063.toInt ∧ z37063.toInt ≤ 3 := rz37063
          refine lv_aload_n hx hb dX13_heir_73 rfl (lv_at hl 0 rfl) ?_
          refine t_get (C := RX13) (T := TX13) (N := 37) X hT m0 g0 rfl rfl 16 (by decide) qw_112 inlX13 rfl dX13_heir_74 (fun v37064 hv37064 ov37064 => ?_)
          obtain ⟨b37065, rfl, mb37065, gb37065⟩ := okV_r ov37064
          have gb37065 : tag b37065 = 37 := tg_of gb37065
          refine lv_sipush (v := 204) hx hb dX13_heir_77 (by decide) ?_
          refine lv_iload_n hx hb dX13_heir_80 rfl (lv_at hl 1 rfl) ?_
          refine lv_iadd hx hb dX13_heir_81 ?_
          refine lv_topi (fun z37066 ez37066 => ?_)
          have hz37066 : z37066.toInt = 204 + p1.toInt := ar_add ez37066 (by decide : (204 : Int32).toInt = 204) (rfl : p1.toInt = p1.toInt) (by omega) (by omega)
          have rz37066 : 204 ≤ z37066.toInt ∧ z37066.toInt ≤ 209 := by omega
          refine t_ild X hT mb37065 gb37065 rfl (by omega) dX13_heir_82 (fun z37067 vz37067 rz37067 => ?_)
          have oz37067 := rz37067
          have rz37067 := rg_all z37067
          refine t_cVi (n := 2) (C := RX13) (T := TX13) (N := 37) (As := [.int z37063, .int z37067]) (rest := [.ref p0]) X hT (km125_X13_warmth l G tag L F hT.2.2.2 p0 z37063 z37067 x0 m0 g0 (by omega) mx0 gx0 pf0) m0 g0 rfl rfl qw_869 qw_870 qw_871 qw_5 qw_872 ⟨rfl, by decide +kernel, by decide +kernel, by decide +kernel⟩ ⟨Nat.le_of_ble_eq_true rfl, Nat.le_of_ble_eq_true rfl⟩ hl rfl rfl (Nat.le_of_ble_eq_true rfl) dX13_heir_83 ⟨Nat.le_of_ble_eq_true rfl, Nat.le_of_ble_eq_true rfl⟩ (fun z37068 F9 H locs hT hz37068 => ?_)
          obtain ⟨fz37068, hz37068⟩ := hz37068
          rw [fz37068] at hT
          refine t_cVi (n := 1) (C := RX13) (T := TX13) (N := 37) (As := [.int z37068]) (rest := []) X hT (km93_X13_good l G tag L F hT.2.2.2 p0 z37068 m0 g0) m0 g0 rfl rfl qw_687 qw_688 qw_689 qw_5 qw_690 ⟨rfl, by decide +kernel, by decide +kernel, by decide +kernel⟩ ⟨Nat.le_of_ble_eq_true rfl, Nat.le_of_ble_eq_true rfl⟩ hl rfl rfl (Nat.le_of_ble_eq_true rfl) dX13_heir_86 ⟨Nat.le_of_ble_eq_true rfl, Nat.le_of_ble_eq_true rfl⟩ (fun z37069 F H locs hT hz37069 => ?_)
          obtain ⟨hz37069, yz37069⟩ := hz37069
          have pf0 := (yz37069.1 _ 3 (Or.inr (by decide)) (Or.inr (by decide))).trans pf0
          have v37043 := (yz37069.1 _ 0 (Or.inr (by decide)) (Or.inr (by decide))).trans v37043
          have hv37061 := (yz37069.1 _ 23 (Or.inr (by decide)) (Or.inr (by decide))).trans hv37061
          have vz37063 := (yz37069.2 _ _ ).trans vz37063
          have hv37064 := (yz37069.1 _ 16 (Or.inr (by decide)) (Or.inr (by decide))).trans hv37064
          have vz37067 := (yz37069.2 _ _ ).trans vz37067
          have hfr : (∀ b j : Nat, (tag b ≠ 46 ∨ j ≠ 0) → (tag b ≠ 46 ∨ j ≠ 1) → (tag b ≠ 46 ∨ j ≠ 2) → fld F b j = fld Fo b j) ∧ (∀ b j : Nat, elm F b j = elm Fo b j) := ⟨fun b j n46_0 n46_1 n46_2 => (yz37069.1 b j n46_1 n46_2).trans (hfr.1 b j n46_0 n46_1 n46_2), fun b j  => (yz37069.2 b j ).trans (hfr.2 b j )⟩
          exact t_iret hQ X hT (⟨rg_all _, hfr⟩) (Nat.le_of_ble_eq_true rfl) (Nat.le_of_ble_eq_true rfl) dX13_heir_89
        · have w37070 := cv_eq (rfl : p2.toInt = p2.toInt) (by decide : (1 : Int32).toInt = 1) c37058
          refine lv_aload_n hx hb dX13_heir_50 rfl (lv_at hl 0 rfl) ?_
          refine t_get (C := RX13) (T := TX13) (N := 37) X hT m0 g0 rfl rfl 16 (by decide) qw_112 inlX13 rfl dX13_heir_51 (fun v37071 hv37071 ov37071 => ?_)
          obtain ⟨b37072, rfl, mb37072, gb37072⟩ := okV_r ov37071
          have gb37072 : tag b37072 = 37 := tg_of gb37072
          refine lv_sipush (v := 204) hx hb dX13_heir_54 (by decide) ?_
          refine lv_iload_n hx hb dX13_heir_57 rfl (lv_at hl 1 rfl) ?_
          refine lv_iadd hx hb dX13_heir_58 ?_
          refine lv_topi (fun z37073 ez37073 => ?_)
          have hz37073 : z37073.toInt = 204 + p1.toInt := ar_add ez37073 (by decide : (204 : Int32).toInt = 204) (rfl : p1.toInt = p1.toInt) (by omega) (by omega)
          have rz37073 : 204 ≤ z37073.toInt ∧ z37073.toInt ≤ 209 := by omega
          refine t_ild X hT mb37072 gb37072 rfl (by omega) dX13_heir_59 (fun z37074 vz37074 rz37074 => ?_)
          have oz37074 := rz37074
          have rz37074 := rg_all z37074
          refine lv_goto (tgt := 86) hx hb dX13_heir_60 (by decide) ?_
          refine t_cVi (n := 1) (C := RX13) (T := TX13) (N := 37) (As := [.int z37074]) (rest := []) X hT (km93_X13_good l G tag L F hT.2.2.2 p0 z37074 m0 g0) m0 g0 rfl rfl qw_687 qw_688 qw_689 qw_5 qw_690 ⟨rfl, by decide +kernel, by decide +kernel, by decide +kernel⟩ ⟨Nat.le_of_ble_eq_true rfl, Nat.le_of_ble_eq_true rfl⟩ hl rfl rfl (Nat.le_of_ble_eq_true rfl) dX13_heir_86 ⟨Nat.le_of_ble_eq_true rfl, Nat.le_of_ble_eq_true rfl⟩ (fun z37075 F H locs hT hz37075 => ?_)
          obtain ⟨hz37075, yz37075⟩ := hz37075
          have pf0 := (yz37075.1 _ 3 (Or.inr (by decide)) (Or.inr (by decide))).trans pf0
          have v37043 := (yz37075.1 _ 0 (Or.inr (by decide)) (Or.inr (by decide))).trans v37043
          have hv37071 := (yz37075.1 _ 16 (Or.inr (by decide)) (Or.inr (by decide))).trans hv37071
          have vz37074 := (yz37075.2 _ _ ).trans vz37074
          have hfr : (∀ b j : Nat, (tag b ≠ 46 ∨ j ≠ 0) → (tag b ≠ 46 ∨ j ≠ 1) → (tag b ≠ 46 ∨ j ≠ 2) → fld F b j = fld Fo b j) ∧ (∀ b j : Nat, elm F b j = elm Fo b j) := ⟨fun b j n46_0 n46_1 n46_2 => (yz37075.1 b j n46_1 n46_2).trans (hfr.1 b j n46_0 n46_1 n46_2), fun b j  => (yz37075.2 b j ).trans (hfr.2 b j )⟩
          exact t_iret hQ X hT (⟨rg_all _, hfr⟩) (Nat.le_of_ble_eq_true rfl) (Nat.le_of_ble_eq_true rfl) dX13_heir_89
      · have w37076 := cv_eq (rfl : p2.toInt = p2.toInt) (by decide : (0 : Int32).toInt = 0) c37056
        refine lv_aload_n hx hb dX13_heir_33 rfl (lv_at hl 0 rfl) ?_
        refine t_get (C := RX13) (T := TX13) (N := 37) X hT m0 g0 rfl rfl 3 (by decide) qw_481 inlX13 rfl dX13_heir_34 (fun v37077 hv37077 ov37077 => ?_)
        obtain rfl : v37077 = .ref x0 := hv37077.symm.trans pf0
        refine t_getN (C := RX12) (T := TX12) (N := 31) X hT mx0 gx0 rfl rfl 23 (by decide) (List.mem_of_getElem? (i := 27) rfl) inlX12 rfl dX13_heir_37 (fun v37078 hv37078 ov37078 => ?_)
        obtain ⟨b37079, rfl, mb37079, gb37079⟩ := okV_r ov37078
        have gb37079 : tag b37079 = 32 := tg_of gb37079
        refine lv_iload_n hx hb dX13_heir_40 rfl (lv_at hl 1 rfl) ?_
        refine t_ild X hT mb37079 gb37079 rfl (by omega) dX13_heir_41 (fun z37080 vz37080 rz37080 => ?_)
        have rz37080 : 0 ≤ z37080.toInt ∧ z37080.toInt ≤ 3 := rz37080
        refine lv_goto (tgt := 86) hx hb dX13_heir_42 (by decide) ?_
        refine t_cVi (n := 1) (C := RX13) (T := TX13) (N := 37) (As := [.int z37080]) (rest := []) X hT (km93_X13_good l G tag L F hT.2.2.2 p0 z37080 m0 g0) m0 g0 rfl rfl qw_687 qw_688 qw_689 qw_5 qw_690 ⟨rfl, by decide +kernel, by decide +kernel, by decide +kernel⟩ ⟨Nat.le_of_ble_eq_true rfl, Nat.le_of_ble_eq_true rfl⟩ hl rfl rfl (Nat.le_of_ble_eq_true rfl) dX13_heir_86 ⟨Nat.le_of_ble_eq_true rfl, Nat.le_of_ble_eq_true rfl⟩ (fun z37081 F H locs hT hz37081 => ?_)
        obtain ⟨hz37081, yz37081⟩ := hz37081
        have pf0 := (yz37081.1 _ 3 (Or.inr (by decide)) (Or.inr (by decide))).trans pf0
        have v37043 := (yz37081.1 _ 0 (Or.inr (by decide)) (Or.inr (by decide))).trans v37043
        have hv37078 := (yz37081.1 _ 23 (Or.inr (by decide)) (Or.inr (by decide))).trans hv37078
        have vz37080 := (yz37081.2 _ _ ).trans vz37080
        have hfr : (∀ b j : Nat, (tag b ≠ 46 ∨ j ≠ 0) → (tag b ≠ 46 ∨ j ≠ 1) → (tag b ≠ 46 ∨ j ≠ 2) → fld F b j = fld Fo b j) ∧ (∀ b j : Nat, elm F b j = elm Fo b j) := ⟨fun b j n46_0 n46_1 n46_2 => (yz37081.1 b j n46_1 n46_2).trans (hfr.1 b j n46_0 n46_1 n46_2), fun b j  => (yz37081.2 b j ).trans (hfr.2 b j )⟩
        exact t_iret hQ X hT (⟨rg_all _, hfr⟩) (Nat.le_of_ble_eq_true rfl) (Nat.le_of_ble_eq_true rfl) dX13_heir_89
    · have w37082 := cv_eq (rfl : z37050.toInt = z37050.toInt) (by decide : (0 : Int32).toInt = 0) c37053
      refine lv_aload_n hx hb dX13_heir_22 rfl (lv_at hl 0 rfl) ?_
      refine lv_iconst (v := 1) hx hb dX13_heir_23 (by decide) ?_
      refine t_cVi (n := 1) (C := RX13) (T := TX13) (N := 37) (As := [.int 1]) (rest := []) X hT (km88_X13_refused l G tag L F hT.2.2.2 p0 1 m0 g0) m0 g0 rfl rfl qw_484 qw_485 qw_486 qw_5 qw_487 ⟨rfl, by decide +kernel, by decide +kernel, by decide +kernel⟩ ⟨Nat.le_of_ble_eq_true rfl, Nat.le_of_ble_eq_true rfl⟩ hl rfl rfl (Nat.le_of_ble_eq_true rfl) dX13_heir_24 ⟨Nat.le_of_ble_eq_true rfl, Nat.le_of_ble_eq_true rfl⟩ (fun z37083 F H locs hT hz37083 => ?_)
      obtain ⟨hz37083, yz37083⟩ := hz37083
      have pf0 := (yz37083.1 _ 3 (Or.inr (by decide)) (Or.inr (by decide))).trans pf0
      have v37043 := (yz37083.1 _ 0 (Or.inr (by decide)) (Or.inr (by decide))).trans v37043
      have hfr : (∀ b j : Nat, (tag b ≠ 46 ∨ j ≠ 0) → (tag b ≠ 46 ∨ j ≠ 1) → (tag b ≠ 46 ∨ j ≠ 2) → fld F b j = fld Fo b j) ∧ (∀ b j : Nat, elm F b j = elm Fo b j) := ⟨fun b j n46_0 n46_1 n46_2 => (yz37083.1 b j n46_1 n46_2).trans (hfr.1 b j n46_0 n46_1 n46_2), fun b j  => (yz37083.2 b j ).trans (hfr.2 b j )⟩
      exact t_iret hQ X hT (⟨rg_all _, hfr⟩) (Nat.le_of_ble_eq_true rfl) (Nat.le_of_ble_eq_true rfl) dX13_heir_27
set_option maxHeartbeats 4000000 in
set_option maxRecDepth 100000 in
theorem km135_X13_isHeir (l : Launch) (G : KG) (tag : Nat → Nat) (L : List Nat) (F : Nat → va_E) (ho : okT G ttC tag L F) (p0 : Nat) (p1 : Int32) (m0 : p0 ∈ L) (g0 : tag p0 = 46) (pf0 : fld F p0 3 = .null) : TMi l yX13_isHeir cX13_isHeir 2 (some .boolean) { frames := 0, cells := 0, slots := 0, locals := 0 } G ttC tag L F [.ref p0, .int p1] (fun r F1 => F1 = F ∧ (0 ≤ r.toInt ∧ r.toInt ≤ 0)) := by
  refine t_bodyi (y := yX13_isHeir) (cd := cX13_isHeir) (mL := 2) (rt := (some .boolean)) (rm := { frames := 0, cells := 0, slots := 0, locals := 0 }) (av := [.ref p0, .int p1]) (by decide) (Nat.le_of_ble_eq_true rfl) ho ?_
  intro p e s m args below meth c ls A Q hQ X hT hl
  have hx := X.1.1
  have hb := X.1.2.1
  have hl : lv_has ls 2 [(0, .ref p0), (1, .int p1)] := hl
  have rp1 := rg_all p1
  refine lv_aload_n hx hb dX13_isHeir_0 rfl (lv_at hl 0 rfl) ?_
  refine t_get (C := RX13) (T := TX13) (N := 37) X hT m0 g0 rfl rfl 3 (by decide) qw_481 inlX13 rfl dX13_isHeir_1 (fun v37096 hv37096 ov37096 => ?_)
  obtain rfl : v37096 = .null := hv37096.symm.trans pf0
  refine lv_ifnullN (tgt := 26) hx hb dX13_isHeir_4 (by decide) ?_
  refine lv_iconst (v := 0) hx hb dX13_isHeir_26 (by decide) ?_
  have k37097 : (0 : Int32).toInt = 0 := by decide
  exact t_zret hQ X hT (by decide) (⟨rfl, (by decide)⟩) (Nat.le_of_ble_eq_true rfl) (Nat.le_of_ble_eq_true rfl) dX13_isHeir_27
set_option maxHeartbeats 4000000 in
set_option maxRecDepth 100000 in
theorem km136_X13_heir (l : Launch) (G : KG) (tag : Nat → Nat) (L : List Nat) (Fo : Nat → va_E) (ho : okT G ttC tag L Fo) (p0 : Nat) (p1 : Int32) (p2 : Int32) (m0 : p0 ∈ L) (g0 : tag p0 = 46) (pf0 : fld Fo p0 3 = .null) : TMi l yX13_heir cX13_heir 3 (some .int) { frames := 2, cells := 0, slots := 0, locals := 46 } G ttC tag L Fo [.ref p0, .int p1, .int p2] (fun r F1 => ((-2147483648) ≤ r.toInt ∧ r.toInt ≤ 2147483647) ∧ ((∀ b j : Nat, (tag b ≠ 46 ∨ j ≠ 0) → (tag b ≠ 46 ∨ j ≠ 1) → (tag b ≠ 46 ∨ j ≠ 2) → fld F1 b j = fld Fo b j) ∧ (∀ b j : Nat, elm F1 b j = elm Fo b j))) := by
  refine t_bodyi (y := yX13_heir) (cd := cX13_heir) (mL := 3) (rt := (some .int)) (rm := { frames := 2, cells := 0, slots := 0, locals := 46 }) (av := [.ref p0, .int p1, .int p2]) (by decide) (Nat.le_of_ble_eq_true rfl) ho ?_
  intro p e s m args below meth c ls A Q hQ X hT hl
  have hx := X.1.1
  have hb := X.1.2.1
  have hl : lv_has ls 3 [(0, .ref p0), (1, .int p1), (2, .int p2)] := hl
  have rp1 := rg_all p1
  have rp2 := rg_all p2
  obtain ⟨F, hFo⟩ : ∃ F : Nat → va_E, F = Fo := ⟨_, rfl⟩
  rw [← hFo] at hT pf0
  have hfr : (∀ b j : Nat, (tag b ≠ 46 ∨ j ≠ 0) → (tag b ≠ 46 ∨ j ≠ 1) → (tag b ≠ 46 ∨ j ≠ 2) → fld F b j = fld Fo b j) ∧ (∀ b j : Nat, elm F b j = elm Fo b j) := by
    rw [hFo]
    exact ⟨by intros; rfl, by intros; rfl⟩
  refine lv_aload_n hx hb dX13_heir_0 rfl (lv_at hl 0 rfl) ?_
  refine lv_iconst (v := 0) hx hb dX13_heir_1 (by decide) ?_
  refine t_put (C := RX13) (T := TX13) (N := 37) (v := .int 0) X hT m0 g0 rfl tyX13 tyX13_ok nmX13 rfl 0 (by decide) qw_140 inlX13 rfl (by first | rfl | decide) (by first | rfl | decide) rfl (⟨_, rfl, (show (-2147483648) ≤ (0 : Int32).toInt from (by decide)), (show (0 : Int32).toInt ≤ 2147483647 from (by decide))⟩) dX13_heir_2 (fun F H locs hT v37163 h1v37163 h2v37163 => ?_)
  have pf0 := (h1v37163 _ _ (Or.inr (by decide))).trans pf0
  have hfr : (∀ b j : Nat, (tag b ≠ 46 ∨ j ≠ 0) → (tag b ≠ 46 ∨ j ≠ 1) → (tag b ≠ 46 ∨ j ≠ 2) → fld F b j = fld Fo b j) ∧ (∀ b j : Nat, elm F b j = elm Fo b j) := ⟨fun b j n46_0 n46_1 n46_2 => (h1v37163 b j (fr_ne g0 n46_0)).trans (hfr.1 b j n46_0 n46_1 n46_2), fun b j  => (h2v37163 b j).trans (hfr.2 b j )⟩
  refine lv_aload_n hx hb dX13_heir_5 rfl (lv_at hl 0 rfl) ?_
  refine lv_iload_n hx hb dX13_heir_6 rfl (lv_at hl 1 rfl) ?_
  refine t_cVi (n := 1) (C := RX13) (T := TX13) (N := 37) (As := [.int p1]) (rest := []) X hT (km135_X13_isHeir l G tag L F hT.2.2.2 p0 p1 m0 g0 pf0) m0 g0 rfl rfl qw_896 qw_897 qw_898 qw_5 qw_899 ⟨rfl, by decide +kernel, by decide +kernel, by decide +kernel⟩ ⟨Nat.le_of_ble_eq_true rfl, Nat.le_of_ble_eq_true rfl⟩ hl rfl rfl (Nat.le_of_ble_eq_true rfl) dX13_heir_7 ⟨Nat.le_of_ble_eq_true rfl, Nat.le_of_ble_eq_true rfl⟩ (fun z37164 F9 H locs hT hz37164 => ?_)
  obtain ⟨fz37164, hz37164⟩ := hz37164
  rw [fz37164] at hT
  refine lv_if_eq (tgt := 22) hx hb dX13_heir_10 (by decide) (fun c37165 => ?_) (fun c37165 => ?_)
  · have w37166 := cv_eq (rfl : z37164.toInt = z37164.toInt) (by decide : (0 : Int32).toInt = 0) c37165
    refine lv_aload_n hx hb dX13_heir_22 rfl (lv_at hl 0 rfl) ?_
    refine lv_iconst (v := 1) hx hb dX13_heir_23 (by decide) ?_
    refine t_cVi (n := 1) (C := RX13) (T := TX13) (N := 37) (As := [.int 1]) (rest := []) X hT (km88_X13_refused l G tag L F hT.2.2.2 p0 1 m0 g0) m0 g0 rfl rfl qw_484 qw_485 qw_486 qw_5 qw_487 ⟨rfl, by decide +kernel, by decide +kernel, by decide +kernel⟩ ⟨Nat.le_of_ble_eq_true rfl, Nat.le_of_ble_eq_true rfl⟩ hl rfl rfl (Nat.le_of_ble_eq_true rfl) dX13_heir_24 ⟨Nat.le_of_ble_eq_true rfl, Nat.le_of_ble_eq_true rfl⟩ (fun z37167 F H locs hT hz37167 => ?_)
    obtain ⟨hz37167, yz37167⟩ := hz37167
    have pf0 := (yz37167.1 _ 3 (Or.inr (by decide)) (Or.inr (by decide))).trans pf0
    have v37163 := (yz37167.1 _ 0 (Or.inr (by decide)) (Or.inr (by decide))).trans v37163
    have hfr : (∀ b j : Nat, (tag b ≠ 46 ∨ j ≠ 0) → (tag b ≠ 46 ∨ j ≠ 1) → (tag b ≠ 46 ∨ j ≠ 2) → fld F b j = fld Fo b j) ∧ (∀ b j : Nat, elm F b j = elm Fo b j) := ⟨fun b j n46_0 n46_1 n46_2 => (yz37167.1 b j n46_1 n46_2).trans (hfr.1 b j n46_0 n46_1 n46_2), fun b j  => (yz37167.2 b j ).trans (hfr.2 b j )⟩
    exact t_iret hQ X hT (⟨rg_all _, hfr⟩) (Nat.le_of_ble_eq_true rfl) (Nat.le_of_ble_eq_true rfl) dX13_heir_27
  · have w37168 := cv_ne (rfl : z37164.toInt = z37164.toInt) (by decide : (0 : Int32).toInt = 0) c37165
    exfalso
    omega
theorem kp_X13_heir (l : Launch) (G : KG) (tag : Nat → Nat) (L : List Nat) (Fo : Nat → va_E) (ho : okT G ttC tag L Fo) (p0 : Nat) (p1 : Int32) (p2 : Int32) (m0 : p0 ∈ L) (g0 : tag p0 = 46) : TMi l yX13_heir cX13_heir 3 (some .int) { frames := 2, cells := 0, slots := 0, locals := 46 } G ttC tag L Fo [.ref p0, .int p1, .int p2] (fun r F1 => ((-2147483648) ≤ r.toInt ∧ r.toInt ≤ 2147483647) ∧ ((∀ b j : Nat, (tag b ≠ 46 ∨ j ≠ 0) → (tag b ≠ 46 ∨ j ≠ 1) → (tag b ≠ 46 ∨ j ≠ 2) → fld F1 b j = fld Fo b j) ∧ (∀ b j : Nat, elm F1 b j = elm Fo b j))) := by
  rcases t_fldn ho m0 g0 rfl 3 rfl with h9 | ⟨b9, h9, m9, t9⟩
  · exact km136_X13_heir l G tag L Fo ho p0 p1 p2  m0 g0 h9 
  · exact km134_X13_heir l G tag L Fo ho p0 p1 p2 b9  m0 g0 m9 (tg_of t9) h9 
set_option maxHeartbeats 4000000 in
set_option maxRecDepth 100000 in
theorem km138_X13_fitsIn (l : Launch) (G : KG) (tag : Nat → Nat) (L : List Nat) (F : Nat → va_E) (ho : okT G ttC tag L F) (p0 : Nat) (p1 : Nat) (p2 : Int32) (m0 : p0 ∈ L) (g0 : tag p0 = 45) (m1 : p1 ∈ L) (g1 : tag p1 = 37) (h2 : 0 ≤ p2.toInt ∧ p2.toInt ≤ 3) : TMi l yX13_fitsIn cX13_fitsIn 7 (some .boolean) { frames := 2, cells := 0, slots := 0, locals := 46 } G ttC tag L F [.ref p0, .ref p1, .int p2] (fun r F1 => F1 = F ∧ (0 ≤ r.toInt ∧ r.toInt ≤ 1)) := by
  refine t_bodyi (y := yX13_fitsIn) (cd := cX13_fitsIn) (mL := 7) (rt := (some .boolean)) (rm := { frames := 2, cells := 0, slots := 0, locals := 46 }) (av := [.ref p0, .ref p1, .int p2]) (by decide) (Nat.le_of_ble_eq_true rfl) ho ?_
  intro p e s m args below meth c ls A Q hQ X hT hl
  have hx := X.1.1
  have hb := X.1.2.1
  have hl : lv_has ls 7 [(0, .ref p0), (1, .ref p1), (2, .int p2)] := hl
  have K17 : ∀ (n : Nat) (z38169 : Int32) (z38170 : Int32) (z38171 : Int32) (H : Heap) (locs : List Loc) (ls : Array Slot), (193 - z38170.toInt < (n : Int)) → (1 ≤ z38169.toInt ∧ z38169.toInt ≤ 7) → ((-7) ≤ z38170.toInt ∧ z38170.toInt ≤ 193) → (0 ≤ z38171.toInt ∧ z38171.toInt ≤ 6) → TH G ttC A s tag L F H locs → (elm F p1 p2.toNatClampNeg = z38171) → lv_has ls 7 [(0, .ref p0), (1, .ref p1), (2, .int p2), (3, .int z38169), (4, .int z38170)] → W p l e { frames := 2, cells := 0, slots := 0, locals := 46 } s m args below meth c H locs 0 0 Q (F0 m 17 ls []) := by
    intro n
    induction n with
    | zero =>
      intro z38169 z38170 z38171 H locs ls hn rz38169 rz38170 rz38171 hT qz38171 hl
      exfalso
      omega
    | succ n ih17 =>
      intro z38169 z38170 z38171 H locs ls hn rz38169 rz38170 rz38171 hT qz38171 hl
      have K38 : ∀ (n : Nat) (z38173 : Int32) (z38174 : Int32) (H : Heap) (locs : List Loc) (ls : Array Slot), (20 - z38173.toInt < (n : Int)) → ((-7) ≤ z38173.toInt ∧ z38173.toInt ≤ 20) → (0 ≤ z38174.toInt ∧ z38174.toInt ≤ 6) → ((-7) ≤ z38170.toInt ∧ z38170.toInt ≤ 192) → TH G ttC A s tag L F H locs → (elm F p1 p2.toNatClampNeg = z38174) → lv_has ls 7 [(0, .ref p0), (1, .ref p1), (2, .int p2), (3, .int z38169), (4, .int z38170), (5, .int z38173)] → W p l e { frames := 2, cells := 0, slots := 0, locals := 46 } s m args below meth c H locs 0 0 Q (F0 m 38 ls []) := by
        intro n
        induction n with
        | zero =>
          intro z38173 z38174 H locs ls hn rz38173 rz38174 r9s38172 hT qz38174 hl
          exfalso
          omega
        | succ n ih38 =>
          intro z38173 z38174 H locs ls hn rz38173 rz38174 r9s38172 hT qz38174 hl
          have K162 : ∀ (z38176 : Int32) (H : Heap) (locs : List Loc) (ls : Array Slot), (0 ≤ z38176.toInt ∧ z38176.toInt ≤ 6) → ((-7) ≤ z38173.toInt ∧ z38173.toInt ≤ 19) → TH G ttC A s tag L F H locs → (elm F p1 p2.toNatClampNeg = z38176) → lv_has ls 7 [(0, .ref p0), (1, .ref p1), (2, .int p2), (3, .int z38169), (4, .int z38170), (5, .int z38173)] → W p l e { frames := 2, cells := 0, slots := 0, locals := 46 } s m args below meth c H locs 0 0 Q (F0 m 162 ls []) := by
            intro z38176 H locs ls rz38176 r9s38175 hT qz38176 hl
            obtain ⟨z38177, ez38177⟩ : ∃ y : Int32, y = z38173 + 1 := ⟨_, rfl⟩
            have hz38177 : z38177.toInt = z38173.toInt + 1 := ar_add ez38177 rfl (by decide : (1 : Int32).toInt = 1) (by omega) (by omega)
            refine lv_iinc (v := z38177) (lv' := [(5, .int z38177), (0, .ref p0), (1, .ref p1), (2, .int p2), (3, .int z38169), (4, .int z38170)]) hx hb dX13_fitsIn_162 hl (k := 5) rfl (by rw [ez38177]; rfl) (by decide) rfl (fun ls hl => ?_)
            refine lv_goto (tgt := 38) hx hb dX13_fitsIn_165 (by decide) ?_
            exact ih38 z38177 z38176 _ _ _ (by omega) (by omega) (by omega) (by omega) hT qz38176 (lv_sub hl [1, 2, 3, 4, 5, 0] rfl)
          have K82 : ∀ (n : Nat) (z38179 : Int32) (z38180 : Int32) (H : Heap) (locs : List Loc) (ls : Array Slot), (4 - z38179.toInt < (n : Int)) → (0 ≤ z38179.toInt ∧ z38179.toInt ≤ 4) → (0 ≤ z38180.toInt ∧ z38180.toInt ≤ 6) → ((-7) ≤ z38173.toInt ∧ z38173.toInt ≤ 19) → TH G ttC A s tag L F H locs → (elm F p1 p2.toNatClampNeg = z38180) → lv_has ls 7 [(0, .ref p0), (1, .ref p1), (2, .int p2), (3, .int z38169), (4, .int z38170), (5, .int z38173), (6, .int z38179)] → W p l e { frames := 2, cells := 0, slots := 0, locals := 46 } s m args below meth c H locs 0 0 Q (F0 m 82 ls []) := by
            intro n
            induction n with
            | zero =>
              intro z38179 z38180 H locs ls hn rz38179 rz38180 r9s38178 hT qz38180 hl
              exfalso
              omega
            | succ n ih82 =>
              intro z38179 z38180 H locs ls hn rz38179 rz38180 r9s38178 hT qz38180 hl
              have K156 : ∀ (z38182 : Int32) (z38183 : Int32) (H : Heap) (locs : List Loc) (ls : Array Slot), (0 ≤ z38182.toInt ∧ z38182.toInt ≤ 6) → (1 ≤ z38183.toInt ∧ z38183.toInt ≤ 4) → (0 ≤ z38179.toInt ∧ z38179.toInt ≤ 3) → TH G ttC A s tag L F H locs → (elm F p1 p2.toNatClampNeg = z38182) → (fld F p0 8 = .int z38183) → lv_has ls 7 [(0, .ref p0), (1, .ref p1), (2, .int p2), (3, .int z38169), (4, .int z38170), (5, .int z38173), (6, .int z38179)] → W p l e { frames := 2, cells := 0, slots := 0, locals := 46 } s m args below meth c H locs 0 0 Q (F0 m 156 ls []) := by
                intro z38182 z38183 H locs ls rz38182 rz38183 r9s38181 hT qz38182 qz38183 hl
                obtain ⟨z38184, ez38184⟩ : ∃ y : Int32, y = z38179 + 1 := ⟨_, rfl⟩
                have hz38184 : z38184.toInt = z38179.toInt + 1 := ar_add ez38184 rfl (by decide : (1 : Int32).toInt = 1) (by omega) (by omega)
                refine lv_iinc (v := z38184) (lv' := [(6, .int z38184), (0, .ref p0), (1, .ref p1), (2, .int p2), (3, .int z38169), (4, .int z38170), (5, .int z38173)]) hx hb dX13_fitsIn_156 hl (k := 6) rfl (by rw [ez38184]; rfl) (by decide) rfl (fun ls hl => ?_)
                refine lv_goto (tgt := 82) hx hb dX13_fitsIn_159 (by decide) ?_
                exact ih82 z38184 z38182 _ _ _ (by omega) (by omega) (by omega) (by omega) hT qz38182 (lv_sub hl [1, 2, 3, 4, 5, 6, 0] rfl)
              refine lv_iload hx hb dX13_fitsIn_82 (lv_at hl 6 rfl) ?_
              refine lv_aload_n hx hb dX13_fitsIn_84 rfl (lv_at hl 0 rfl) ?_
              refine t_getN (C := RX12) (T := TX12) (N := 31) X hT m0 g0 rfl rfl 8 (by decide) (List.mem_of_getElem? (i := 12) rfl) inlX12 rfl dX13_fitsIn_85 (fun v38185 hv38185 ov38185 => ?_)
              obtain ⟨z38186, rfl, rz38186⟩ := okV_i ov38185
              refine lv_icmp_ge (tgt := 162) hx hb dX13_fitsIn_88 (by decide) (fun c38187 => ?_) (fun c38187 => ?_)
              · have w38188 := cv_le (rfl : z38186.toInt = z38186.toInt) (rfl : z38179.toInt = z38179.toInt) c38187
                exact K162 z38180 _ _ _ (by omega) (by omega) hT qz38180 (lv_sub hl [0, 1, 2, 3, 4, 5] rfl)
              · have w38189 := cv_nle (rfl : z38186.toInt = z38186.toInt) (rfl : z38179.toInt = z38179.toInt) c38187
                refine lv_iload hx hb dX13_fitsIn_91 (lv_at hl 6 rfl) ?_
                refine lv_iload_n hx hb dX13_fitsIn_93 rfl (lv_at hl 2 rfl) ?_
                refine lv_icmp_eq (tgt := 156) hx hb dX13_fitsIn_94 (by decide) (fun c38190 => ?_) (fun c38190 => ?_)
                · have w38191 := cv_eq (rfl : z38179.toInt = z38179.toInt) (rfl : p2.toInt = p2.toInt) c38190
                  exact K156 z38180 z38186 _ _ _ (by omega) (by omega) (by omega) hT qz38180 hv38185 (lv_sub hl [0, 1, 2, 3, 4, 5, 6] rfl)
                · have w38192 := cv_ne (rfl : z38179.toInt = z38179.toInt) (rfl : p2.toInt = p2.toInt) c38190
                  refine lv_aload_n hx hb dX13_fitsIn_97 rfl (lv_at hl 0 rfl) ?_
                  refine lv_iload hx hb dX13_fitsIn_98 (lv_at hl 6 rfl) ?_
                  refine lv_iload hx hb dX13_fitsIn_100 (lv_at hl 5 rfl) ?_
                  refine lv_iload hx hb dX13_fitsIn_102 (lv_at hl 4 rfl) ?_
                  refine t_cVi (n := 3) (C := RX12) (T := TX12) (N := 31) (As := [.int z38179, .int z38173, .int z38170]) (rest := []) X hT (km91_X12_far l G tag L F hT.2.2.2 p0 z38179 z38173 z38170 m0 g0 (by omega)) m0 g0 rfl rfl qw_619 qw_620 qw_621 qw_476 qw_622 ⟨rfl, by decide +kernel, by decide +kernel, by decide +kernel⟩ ⟨Nat.le_of_ble_eq_true rfl, Nat.le_of_ble_eq_true rfl⟩ hl rfl rfl (Nat.le_of_ble_eq_true rfl) dX13_fitsIn_104 ⟨Nat.le_of_ble_eq_true rfl, Nat.le_of_ble_eq_true rfl⟩ (fun z38193 F9 H locs hT hz38193 => ?_)
                  obtain ⟨fz38193, hz38193⟩ := hz38193
                  rw [fz38193] at hT
                  refine lv_aload_n hx hb dX13_fitsIn_107 rfl (lv_at hl 1 rfl) ?_
                  refine lv_iconst (v := 0) hx hb dX13_fitsIn_108 (by decide) ?_
                  refine lv_iload hx hb dX13_fitsIn_109 (lv_at hl 6 rfl) ?_
                  refine lv_iadd hx hb dX13_fitsIn_111 ?_
                  refine lv_topi (fun z38194 ez38194 => ?_)
                  obtain rfl : z38179 = z38194 := (ar_zadd ez38194).symm
                  refine t_ild X hT m1 g1 rfl (by omega) dX13_fitsIn_112 (fun z38195 vz38195 rz38195 => ?_)
                  have rz38195 := row_ml (by omega) rz38195
                  refine lv_icmp_le (tgt := 119) hx hb dX13_fitsIn_113 (by decide) (fun c38196 => ?_) (fun c38196 => ?_)
                  · have w38197 := cv_le (rfl : z38193.toInt = z38193.toInt) (rfl : z38195.toInt = z38195.toInt) c38196
                    refine lv_aload_n hx hb dX13_fitsIn_119 rfl (lv_at hl 0 rfl) ?_
                    refine t_getN (C := RX12) (T := TX12) (N := 31) X hT m0 g0 rfl rfl 14 (by decide) (List.mem_of_getElem? (i := 18) rfl) inlX12 rfl dX13_fitsIn_120 (fun v38198 hv38198 ov38198 => ?_)
                    obtain ⟨z38199, rfl, rz38199⟩ := okV_i ov38198
                    refine lv_if_eq (tgt := 154) hx hb dX13_fitsIn_123 (by decide) (fun c38200 => ?_) (fun c38200 => ?_)
                    · have w38201 := cv_eq (rfl : z38199.toInt = z38199.toInt) (by decide : (0 : Int32).toInt = 0) c38200
                      refine lv_iconst (v := 0) hx hb dX13_fitsIn_154 (by decide) ?_
                      have k38202 : (0 : Int32).toInt = 0 := by decide
                      exact t_zret hQ X hT (by decide) (⟨rfl, (by decide)⟩) (Nat.le_of_ble_eq_true rfl) (Nat.le_of_ble_eq_true rfl) dX13_fitsIn_155
                    · have w38203 := cv_ne (rfl : z38199.toInt = z38199.toInt) (by decide : (0 : Int32).toInt = 0) c38200
                      refine lv_aload_n hx hb dX13_fitsIn_126 rfl (lv_at hl 1 rfl) ?_
                      refine lv_iconst (v := 0) hx hb dX13_fitsIn_127 (by decide) ?_
                      refine lv_iload hx hb dX13_fitsIn_128 (lv_at hl 6 rfl) ?_
                      refine lv_iadd hx hb dX13_fitsIn_130 ?_
                      refine lv_topi (fun z38204 ez38204 => ?_)
                      obtain rfl : z38179 = z38204 := (ar_zadd ez38204).symm
                      refine t_ild X hT m1 g1 rfl (by omega) dX13_fitsIn_131 (fun z38205 vz38205 rz38205 => ?_)
                      obtain rfl : z38195 = z38205 := vz38195.symm.trans vz38205
                      refine lv_if_eq (tgt := 154) hx hb dX13_fitsIn_132 (by decide) (fun c38206 => ?_) (fun c38206 => ?_)
                      · have w38207 := cv_eq (rfl : z38195.toInt = z38195.toInt) (by decide : (0 : Int32).toInt = 0) c38206
                        refine lv_iconst (v := 0) hx hb dX13_fitsIn_154 (by decide) ?_
                        have k38208 : (0 : Int32).toInt = 0 := by decide
                        exact t_zret hQ X hT (by decide) (⟨rfl, (by decide)⟩) (Nat.le_of_ble_eq_true rfl) (Nat.le_of_ble_eq_true rfl) dX13_fitsIn_155
                      · have w38209 := cv_ne (rfl : z38195.toInt = z38195.toInt) (by decide : (0 : Int32).toInt = 0) c38206
                        refine lv_aload_n hx hb dX13_fitsIn_135 rfl (lv_at hl 0 rfl) ?_
                        refine lv_iload hx hb dX13_fitsIn_136 (lv_at hl 6 rfl) ?_
                        refine lv_iload hx hb dX13_fitsIn_138 (lv_at hl 5 rfl) ?_
                        refine lv_iload hx hb dX13_fitsIn_140 (lv_at hl 4 rfl) ?_
                        refine t_cVi (n := 3) (C := RX12) (T := TX12) (N := 31) (As := [.int z38179, .int z38173, .int z38170]) (rest := []) X hT (km91_X12_far l G tag L F hT.2.2.2 p0 z38179 z38173 z38170 m0 g0 (by omega)) m0 g0 rfl rfl qw_619 qw_620 qw_621 qw_476 qw_622 ⟨rfl, by decide +kernel, by decide +kernel, by decide +kernel⟩ ⟨Nat.le_of_ble_eq_true rfl, Nat.le_of_ble_eq_true rfl⟩ hl rfl rfl (Nat.le_of_ble_eq_true rfl) dX13_fitsIn_142 ⟨Nat.le_of_ble_eq_true rfl, Nat.le_of_ble_eq_true rfl⟩ (fun z38210 F9 H locs hT hz38210 => ?_)
                        obtain ⟨fz38210, hz38210⟩ := hz38210
                        rw [fz38210] at hT
                        refine lv_aload_n hx hb dX13_fitsIn_145 rfl (lv_at hl 1 rfl) ?_
                        refine lv_iconst (v := 0) hx hb dX13_fitsIn_146 (by decide) ?_
                        refine lv_iload hx hb dX13_fitsIn_147 (lv_at hl 6 rfl) ?_
                        refine lv_iadd hx hb dX13_fitsIn_149 ?_
                        refine lv_topi (fun z38211 ez38211 => ?_)
                        obtain rfl : z38179 = z38211 := (ar_zadd ez38211).symm
                        refine t_ild X hT m1 g1 rfl (by omega) dX13_fitsIn_150 (fun z38212 vz38212 rz38212 => ?_)
                        obtain rfl : z38195 = z38212 := vz38195.symm.trans vz38212
                        refine lv_icmp_ge (tgt := 156) hx hb dX13_fitsIn_151 (by decide) (fun c38213 => ?_) (fun c38213 => ?_)
                        · have w38214 := cv_le (rfl : z38195.toInt = z38195.toInt) (rfl : z38210.toInt = z38210.toInt) c38213
                          exact K156 z38180 z38186 _ _ _ (by omega) (by omega) (by omega) hT qz38180 hv38185 (lv_sub hl [0, 1, 2, 3, 4, 5, 6] rfl)
                        · have w38215 := cv_nle (rfl : z38195.toInt = z38195.toInt) (rfl : z38210.toInt = z38210.toInt) c38213
                          refine lv_iconst (v := 0) hx hb dX13_fitsIn_154 (by decide) ?_
                          have k38216 : (0 : Int32).toInt = 0 := by decide
                          exact t_zret hQ X hT (by decide) (⟨rfl, (by decide)⟩) (Nat.le_of_ble_eq_true rfl) (Nat.le_of_ble_eq_true rfl) dX13_fitsIn_155
                  · have w38217 := cv_nle (rfl : z38193.toInt = z38193.toInt) (rfl : z38195.toInt = z38195.toInt) c38196
                    refine lv_goto (tgt := 156) hx hb dX13_fitsIn_116 (by decide) ?_
                    exact K156 z38180 z38186 _ _ _ (by omega) (by omega) (by omega) hT qz38180 hv38185 (lv_sub hl [0, 1, 2, 3, 4, 5, 6] rfl)
          refine lv_iload hx hb dX13_fitsIn_38 (lv_at hl 5 rfl) ?_
          refine lv_aload_n hx hb dX13_fitsIn_40 rfl (lv_at hl 0 rfl) ?_
          refine lv_iload_n hx hb dX13_fitsIn_41 rfl (lv_at hl 2 rfl) ?_
          refine t_cVi (n := 1) (C := RX12) (T := TX12) (N := 31) (As := [.int p2]) (rest := [.int z38173]) X hT (km89_X12_x l G tag L F hT.2.2.2 p0 p2 m0 g0 (by omega)) m0 g0 rfl rfl qw_648 qw_624 qw_625 qw_476 qw_626 ⟨rfl, by decide +kernel, by decide +kernel, by decide +kernel⟩ ⟨Nat.le_of_ble_eq_true rfl, Nat.le_of_ble_eq_true rfl⟩ hl rfl rfl (Nat.le_of_ble_eq_true rfl) dX13_fitsIn_42 ⟨Nat.le_of_ble_eq_true rfl, Nat.le_of_ble_eq_true rfl⟩ (fun z38218 F9 H locs hT hz38218 => ?_)
          obtain ⟨fz38218, hz38218⟩ := hz38218
          rw [fz38218] at hT
          refine lv_iload_n hx hb dX13_fitsIn_45 rfl (lv_at hl 3 rfl) ?_
          refine lv_iadd hx hb dX13_fitsIn_46 ?_
          refine lv_topi (fun z38219 ez38219 => ?_)
          have hz38219 : z38219.toInt = z38218.toInt + z38169.toInt := ar_add ez38219 (rfl : z38218.toInt = z38218.toInt) (rfl : z38169.toInt = z38169.toInt) (by omega) (by omega)
          have rz38219 : 1 ≤ z38219.toInt ∧ z38219.toInt ≤ 18 := by omega
          refine lv_icmp_gt (tgt := 168) hx hb dX13_fitsIn_47 (by decide) (fun c38220 => ?_) (fun c38220 => ?_)
          · have w38221 := cv_lt (rfl : z38219.toInt = z38219.toInt) (rfl : z38173.toInt = z38173.toInt) c38220
            obtain ⟨z38222, ez38222⟩ : ∃ y : Int32, y = z38170 + 1 := ⟨_, rfl⟩
            have hz38222 : z38222.toInt = z38170.toInt + 1 := ar_add ez38222 rfl (by decide : (1 : Int32).toInt = 1) (by omega) (by omega)
            refine lv_iinc (v := z38222) (lv' := [(4, .int z38222), (0, .ref p0), (1, .ref p1), (2, .int p2), (3, .int z38169), (5, .int z38173)]) hx hb dX13_fitsIn_168 hl (k := 4) rfl (by rw [ez38222]; rfl) (by decide) rfl (fun ls hl => ?_)
            refine lv_goto (tgt := 17) hx hb dX13_fitsIn_171 (by decide) ?_
            exact ih17 z38169 z38222 z38174 _ _ _ (by omega) (by omega) (by omega) (by omega) hT qz38174 (lv_sub hl [1, 2, 3, 4, 0] rfl)
          · have w38223 := cv_nlt (rfl : z38219.toInt = z38219.toInt) (rfl : z38173.toInt = z38173.toInt) c38220
            refine lv_aload_n hx hb dX13_fitsIn_50 rfl (lv_at hl 0 rfl) ?_
            refine lv_iload_n hx hb dX13_fitsIn_51 rfl (lv_at hl 2 rfl) ?_
            refine lv_iload hx hb dX13_fitsIn_52 (lv_at hl 5 rfl) ?_
            refine lv_iload hx hb dX13_fitsIn_54 (lv_at hl 4 rfl) ?_
            refine t_cVi (n := 3) (C := RX12) (T := TX12) (N := 31) (As := [.int p2, .int z38173, .int z38170]) (rest := []) X hT (km91_X12_far l G tag L F hT.2.2.2 p0 p2 z38173 z38170 m0 g0 (by omega)) m0 g0 rfl rfl qw_619 qw_620 qw_621 qw_476 qw_622 ⟨rfl, by decide +kernel, by decide +kernel, by decide +kernel⟩ ⟨Nat.le_of_ble_eq_true rfl, Nat.le_of_ble_eq_true rfl⟩ hl rfl rfl (Nat.le_of_ble_eq_true rfl) dX13_fitsIn_56 ⟨Nat.le_of_ble_eq_true rfl, Nat.le_of_ble_eq_true rfl⟩ (fun z38224 F9 H locs hT hz38224 => ?_)
            obtain ⟨fz38224, hz38224⟩ := hz38224
            rw [fz38224] at hT
            refine lv_iload_n hx hb dX13_fitsIn_59 rfl (lv_at hl 3 rfl) ?_
            refine lv_icmp_eq (tgt := 66) hx hb dX13_fitsIn_60 (by decide) (fun c38225 => ?_) (fun c38225 => ?_)
            · have w38226 := cv_eq (rfl : z38224.toInt = z38224.toInt) (rfl : z38169.toInt = z38169.toInt) c38225
              refine lv_aload_n hx hb dX13_fitsIn_66 rfl (lv_at hl 0 rfl) ?_
              refine lv_iload hx hb dX13_fitsIn_67 (lv_at hl 5 rfl) ?_
              refine lv_iload hx hb dX13_fitsIn_69 (lv_at hl 4 rfl) ?_
              refine t_cVi (n := 2) (C := RX12) (T := TX12) (N := 31) (As := [.int z38173, .int z38170]) (rest := []) X hT (km112_X12_isLand l G tag L F hT.2.2.2 p0 z38173 z38170 m0 g0) m0 g0 rfl rfl qw_649 qw_650 qw_651 qw_476 qw_652 ⟨rfl, by decide +kernel, by decide +kernel, by decide +kernel⟩ ⟨Nat.le_of_ble_eq_true rfl, Nat.le_of_ble_eq_true rfl⟩ hl rfl rfl (Nat.le_of_ble_eq_true rfl) dX13_fitsIn_71 ⟨Nat.le_of_ble_eq_true rfl, Nat.le_of_ble_eq_true rfl⟩ (fun z38227 F9 H locs hT hz38227 => ?_)
              obtain ⟨fz38227, hz38227⟩ := hz38227
              rw [fz38227] at hT
              refine lv_if_ne (tgt := 79) hx hb dX13_fitsIn_74 (by decide) (fun c38228 => ?_) (fun c38228 => ?_)
              · have w38229 := cv_ne (rfl : z38227.toInt = z38227.toInt) (by decide : (0 : Int32).toInt = 0) c38228
                refine lv_iconst (v := 0) hx hb dX13_fitsIn_79 (by decide) ?_
                refine lv_istore (lv' := [(6, .int 0), (0, .ref p0), (1, .ref p1), (2, .int p2), (3, .int z38169), (4, .int z38170), (5, .int z38173)]) hx hb dX13_fitsIn_80 hl (by decide) rfl (fun ls hl => ?_)
                have k38230 : (0 : Int32).toInt = 0 := by decide
                exact K82 5 0 z38174 _ _ _ (by omega) (by decide) (by omega) (by omega) hT qz38174 (lv_sub hl [1, 2, 3, 4, 5, 6, 0] rfl)
              · have w38231 := cv_eq (rfl : z38227.toInt = z38227.toInt) (by decide : (0 : Int32).toInt = 0) c38228
                refine lv_iconst (v := 0) hx hb dX13_fitsIn_77 (by decide) ?_
                have k38232 : (0 : Int32).toInt = 0 := by decide
                exact t_zret hQ X hT (by decide) (⟨rfl, (by decide)⟩) (Nat.le_of_ble_eq_true rfl) (Nat.le_of_ble_eq_true rfl) dX13_fitsIn_78
            · have w38233 := cv_ne (rfl : z38224.toInt = z38224.toInt) (rfl : z38169.toInt = z38169.toInt) c38225
              refine lv_goto (tgt := 162) hx hb dX13_fitsIn_63 (by decide) ?_
              exact K162 z38174 _ _ _ (by omega) (by omega) hT qz38174 (lv_sub hl [0, 1, 2, 3, 4, 5] rfl)
      refine lv_iload hx hb dX13_fitsIn_17 (lv_at hl 4 rfl) ?_
      refine lv_aload_n hx hb dX13_fitsIn_19 rfl (lv_at hl 0 rfl) ?_
      refine lv_iload_n hx hb dX13_fitsIn_20 rfl (lv_at hl 2 rfl) ?_
      refine t_cVi (n := 1) (C := RX12) (T := TX12) (N := 31) (As := [.int p2]) (rest := [.int z38170]) X hT (km90_X12_y l G tag L F hT.2.2.2 p0 p2 m0 g0 (by omega)) m0 g0 rfl rfl qw_647 qw_629 qw_630 qw_476 qw_631 ⟨rfl, by decide +kernel, by decide +kernel, by decide +kernel⟩ ⟨Nat.le_of_ble_eq_true rfl, Nat.le_of_ble_eq_true rfl⟩ hl rfl rfl (Nat.le_of_ble_eq_true rfl) dX13_fitsIn_21 ⟨Nat.le_of_ble_eq_true rfl, Nat.le_of_ble_eq_true rfl⟩ (fun z38234 F9 H locs hT hz38234 => ?_)
      obtain ⟨fz38234, hz38234⟩ := hz38234
      rw [fz38234] at hT
      refine lv_iload_n hx hb dX13_fitsIn_24 rfl (lv_at hl 3 rfl) ?_
      refine lv_iadd hx hb dX13_fitsIn_25 ?_
      refine lv_topi (fun z38235 ez38235 => ?_)
      have hz38235 : z38235.toInt = z38234.toInt + z38169.toInt := ar_add ez38235 (rfl : z38234.toInt = z38234.toInt) (rfl : z38169.toInt = z38169.toInt) (by omega) (by omega)
      have rz38235 : 1 ≤ z38235.toInt ∧ z38235.toInt ≤ 150 := by omega
      refine lv_icmp_gt (tgt := 174) hx hb dX13_fitsIn_26 (by decide) (fun c38236 => ?_) (fun c38236 => ?_)
      · have w38237 := cv_lt (rfl : z38235.toInt = z38235.toInt) (rfl : z38170.toInt = z38170.toInt) c38236
        refine lv_iconst (v := 1) hx hb dX13_fitsIn_174 (by decide) ?_
        have k38238 : (1 : Int32).toInt = 1 := by decide
        exact t_zret hQ X hT (by decide) (⟨rfl, (by decide)⟩) (Nat.le_of_ble_eq_true rfl) (Nat.le_of_ble_eq_true rfl) dX13_fitsIn_175
      · have w38239 := cv_nlt (rfl : z38235.toInt = z38235.toInt) (rfl : z38170.toInt = z38170.toInt) c38236
        refine lv_aload_n hx hb dX13_fitsIn_29 rfl (lv_at hl 0 rfl) ?_
        refine lv_iload_n hx hb dX13_fitsIn_30 rfl (lv_at hl 2 rfl) ?_
        refine t_cVi (n := 1) (C := RX12) (T := TX12) (N := 31) (As := [.int p2]) (rest := []) X hT (km89_X12_x l G tag L F hT.2.2.2 p0 p2 m0 g0 (by omega)) m0 g0 rfl rfl qw_648 qw_624 qw_625 qw_476 qw_626 ⟨rfl, by decide +kernel, by decide +kernel, by decide +kernel⟩ ⟨Nat.le_of_ble_eq_true rfl, Nat.le_of_ble_eq_true rfl⟩ hl rfl rfl (Nat.le_of_ble_eq_true rfl) dX13_fitsIn_31 ⟨Nat.le_of_ble_eq_true rfl, Nat.le_of_ble_eq_true rfl⟩ (fun z38240 F9 H locs hT hz38240 => ?_)
        obtain ⟨fz38240, hz38240⟩ := hz38240
        rw [fz38240] at hT
        refine lv_iload_n hx hb dX13_fitsIn_34 rfl (lv_at hl 3 rfl) ?_
        refine lv_isub hx hb dX13_fitsIn_35 ?_
        refine lv_topi (fun z38241 ez38241 => ?_)
        have hz38241 : z38241.toInt = z38240.toInt - z38169.toInt := ar_sub ez38241 (rfl : z38240.toInt = z38240.toInt) (rfl : z38169.toInt = z38169.toInt) (by omega) (by omega)
        have rz38241 : (-7) ≤ z38241.toInt ∧ z38241.toInt ≤ 10 := by omega
        refine lv_istore (lv' := [(5, .int z38241), (0, .ref p0), (1, .ref p1), (2, .int p2), (3, .int z38169), (4, .int z38170)]) hx hb dX13_fitsIn_36 hl (by decide) rfl (fun ls hl => ?_)
        exact K38 28 z38241 z38171 _ _ _ (by omega) (by omega) (by omega) (by omega) hT qz38171 (lv_sub hl [1, 2, 3, 4, 5, 0] rfl)
  refine lv_aload_n hx hb dX13_fitsIn_0 rfl (lv_at hl 1 rfl) ?_
  refine lv_iconst (v := 0) hx hb dX13_fitsIn_1 (by decide) ?_
  refine lv_iload_n hx hb dX13_fitsIn_2 rfl (lv_at hl 2 rfl) ?_
  refine lv_iadd hx hb dX13_fitsIn_3 ?_
  refine lv_topi (fun z38242 ez38242 => ?_)
  obtain rfl : p2 = z38242 := (ar_zadd ez38242).symm
  refine t_ild X hT m1 g1 rfl (by omega) dX13_fitsIn_4 (fun z38243 vz38243 rz38243 => ?_)
  have rz38243 := row_ml (by omega) rz38243
  refine lv_iconst (v := 1) hx hb dX13_fitsIn_5 (by decide) ?_
  refine lv_iadd hx hb dX13_fitsIn_6 ?_
  refine lv_topi (fun z38244 ez38244 => ?_)
  have hz38244 : z38244.toInt = z38243.toInt + 1 := ar_add ez38244 (rfl : z38243.toInt = z38243.toInt) (by decide : (1 : Int32).toInt = 1) (by omega) (by omega)
  have rz38244 : 1 ≤ z38244.toInt ∧ z38244.toInt ≤ 7 := by omega
  refine lv_istore_n (lv' := [(3, .int z38244), (0, .ref p0), (1, .ref p1), (2, .int p2)]) hx hb dX13_fitsIn_7 rfl hl (by decide) rfl (fun ls hl => ?_)
  refine lv_aload_n hx hb dX13_fitsIn_8 rfl (lv_at hl 1 rfl) ?_
  refine lv_iload_n hx hb dX13_fitsIn_9 rfl (lv_at hl 3 rfl) ?_
  refine t_cVi (n := 1) (C := RX12) (T := TX12) (N := 31) (As := [.int p2]) (rest := []) X hT (km90_X12_y l G tag L F hT.2.2.2 p0 p2 m0 g0 (by omega)) m0 g0 rfl rfl qw_647 qw_629 qw_630 qw_476 qw_631 ⟨rfl, by decide +kernel, by decide +kernel, by decide +kernel⟩ ⟨Nat.le_of_ble_eq_true rfl, Nat.le_of_ble_eq_true rfl⟩ hl rfl rfl (Nat.le_of_ble_eq_true rfl) dX13_fitsIn_10 ⟨Nat.le_of_ble_eq_true rfl, Nat.le_of_ble_eq_true rfl⟩ (fun z38245 F9 H locs hT hz38245 => ?_)
  obtain ⟨fz38245, hz38245⟩ := hz38245
  rw [fz38245] at hT
  refine lv_iload_n hx hb dX13_fitsIn_13 rfl (lv_at hl 0 rfl) ?_
  refine lv_isub hx hb dX13_fitsIn_14 ?_
  refine lv_topi (fun z38246 ez38246 => ?_)
  have hz38246 : z38246.toInt = z38245.toInt - z38244.toInt := ar_sub ez38246 (rfl : z38245.toInt = z38245.toInt) (rfl : z38244.toInt = z38244.toInt) (by omega) (by omega)
  have rz38246 : (-7) ≤ z38246.toInt ∧ z38246.toInt ≤ 142 := by omega
  refine lv_istore (lv' := [(4, .int z38246), (3, .int z38244), (0, .ref p0), (1, .ref p1), (2, .int p2)]) hx hb dX13_fitsIn_15 hl (by decide) rfl (fun ls hl => ?_)
  exact K17 201 z38244 z38246 z38243 _ _ _ (by omega) (by omega) (by omega) (by omega) hT vz38243 (lv_sub hl [2, 3, 4, 1, 0] rfl)
set_option maxHeartbeats 4000000 in
set_option maxRecDepth 100000 in
theorem km139_X13_fits (l : Launch) (G : KG) (tag : Nat → Nat) (L : List Nat) (Fo : Nat → va_E) (ho : okT G ttC tag L Fo) (p0 : Nat) (p1 : Int32) (x0 : Nat) (m0 : p0 ∈ L) (g0 : tag p0 = 46) (mx0 : x0 ∈ L) (gx0 : tag x0 = 45) (pf0 : fld Fo p0 3 = .ref x0) : TMi l yX13_fits cX13_fits 2 (some .int) { frames := 3, cells := 0, slots := 0, locals := 72 } G ttC tag L Fo [.ref p0, .int p1] (fun r F1 => ((-2147483648) ≤ r.toInt ∧ r.toInt ≤ 2147483647) ∧ ((∀ b j : Nat, (tag b ≠ 46 ∨ j ≠ 0) → (tag b ≠ 46 ∨ j ≠ 1) → (tag b ≠ 46 ∨ j ≠ 2) → fld F1 b j = fld Fo b j) ∧ (∀ b j : Nat, elm F1 b j = elm Fo b j))) := by
  refine t_bodyi (y := yX13_fits) (cd := cX13_fits) (mL := 2) (rt := (some .int)) (rm := { frames := 3, cells := 0, slots := 0, locals := 72 }) (av := [.ref p0, .int p1]) (by decide) (Nat.le_of_ble_eq_true rfl) ho ?_
  intro p e s m args below meth c ls A Q hQ X hT hl
  have hx := X.1.1
  have hb := X.1.2.1
  have hl : lv_has ls 2 [(0, .ref p0), (1, .int p1)] := hl
  have rp1 := rg_all p1
  obtain ⟨F, hFo⟩ : ∃ F : Nat → va_E, F = Fo := ⟨_, rfl⟩
  rw [← hFo] at hT pf0
  have hfr : (∀ b j : Nat, (tag b ≠ 46 ∨ j ≠ 0) → (tag b ≠ 46 ∨ j ≠ 1) → (tag b ≠ 46 ∨ j ≠ 2) → fld F b j = fld Fo b j) ∧ (∀ b j : Nat, elm F b j = elm Fo b j) := by
    rw [hFo]
    exact ⟨by intros; rfl, by intros; rfl⟩
  refine lv_aload_n hx hb dX13_fits_0 rfl (lv_at hl 0 rfl) ?_
  refine lv_iconst (v := 0) hx hb dX13_fits_1 (by decide) ?_
  refine t_put (C := RX13) (T := TX13) (N := 37) (v := .int 0) X hT m0 g0 rfl tyX13 tyX13_ok nmX13 rfl 0 (by decide) qw_140 inlX13 rfl (by first | rfl | decide) (by first | rfl | decide) rfl (⟨_, rfl, (show (-2147483648) ≤ (0 : Int32).toInt from (by decide)), (show (0 : Int32).toInt ≤ 2147483647 from (by decide))⟩) dX13_fits_2 (fun F H locs hT v38483 h1v38483 h2v38483 => ?_)
  have pf0 := (h1v38483 _ _ (Or.inr (by decide))).trans pf0
  have hfr : (∀ b j : Nat, (tag b ≠ 46 ∨ j ≠ 0) → (tag b ≠ 46 ∨ j ≠ 1) → (tag b ≠ 46 ∨ j ≠ 2) → fld F b j = fld Fo b j) ∧ (∀ b j : Nat, elm F b j = elm Fo b j) := ⟨fun b j n46_0 n46_1 n46_2 => (h1v38483 b j (fr_ne g0 n46_0)).trans (hfr.1 b j n46_0 n46_1 n46_2), fun b j  => (h2v38483 b j).trans (hfr.2 b j )⟩
  refine lv_aload_n hx hb dX13_fits_5 rfl (lv_at hl 0 rfl) ?_
  refine lv_iload_n hx hb dX13_fits_6 rfl (lv_at hl 1 rfl) ?_
  refine t_cVi (n := 1) (C := RX13) (T := TX13) (N := 37) (As := [.int p1]) (rest := []) X hT (km107_X13_isHouse l G tag L F hT.2.2.2 p0 p1 x0 m0 g0 mx0 gx0 pf0) m0 g0 rfl rfl qw_796 qw_797 qw_798 qw_5 qw_799 ⟨rfl, by decide +kernel, by decide +kernel, by decide +kernel⟩ ⟨Nat.le_of_ble_eq_true rfl, Nat.le_of_ble_eq_true rfl⟩ hl rfl rfl (Nat.le_of_ble_eq_true rfl) dX13_fits_7 ⟨Nat.le_of_ble_eq_true rfl, Nat.le_of_ble_eq_true rfl⟩ (fun z38484 F9 H locs hT hz38484 => ?_)
  obtain ⟨fz38484, hz38484⟩ := hz38484
  rw [fz38484] at hT
  obtain ⟨hz38484, iz38484⟩ := hz38484
  refine lv_if_eq (tgt := 53) hx hb dX13_fits_10 (by decide) (fun c38485 => ?_) (fun c38485 => ?_)
  · have w38486 := cv_eq (rfl : z38484.toInt = z38484.toInt) (by decide : (0 : Int32).toInt = 0) c38485
    refine lv_aload_n hx hb dX13_fits_53 rfl (lv_at hl 0 rfl) ?_
    refine lv_iconst (v := 1) hx hb dX13_fits_54 (by decide) ?_
    refine t_cVi (n := 1) (C := RX13) (T := TX13) (N := 37) (As := [.int 1]) (rest := []) X hT (km88_X13_refused l G tag L F hT.2.2.2 p0 1 m0 g0) m0 g0 rfl rfl qw_484 qw_485 qw_486 qw_5 qw_487 ⟨rfl, by decide +kernel, by decide +kernel, by decide +kernel⟩ ⟨Nat.le_of_ble_eq_true rfl, Nat.le_of_ble_eq_true rfl⟩ hl rfl rfl (Nat.le_of_ble_eq_true rfl) dX13_fits_55 ⟨Nat.le_of_ble_eq_true rfl, Nat.le_of_ble_eq_true rfl⟩ (fun z38487 F H locs hT hz38487 => ?_)
    obtain ⟨hz38487, yz38487⟩ := hz38487
    have pf0 := (yz38487.1 _ 3 (Or.inr (by decide)) (Or.inr (by decide))).trans pf0
    have v38483 := (yz38487.1 _ 0 (Or.inr (by decide)) (Or.inr (by decide))).trans v38483
    have hfr : (∀ b j : Nat, (tag b ≠ 46 ∨ j ≠ 0) → (tag b ≠ 46 ∨ j ≠ 1) → (tag b ≠ 46 ∨ j ≠ 2) → fld F b j = fld Fo b j) ∧ (∀ b j : Nat, elm F b j = elm Fo b j) := ⟨fun b j n46_0 n46_1 n46_2 => (yz38487.1 b j n46_1 n46_2).trans (hfr.1 b j n46_0 n46_1 n46_2), fun b j  => (yz38487.2 b j ).trans (hfr.2 b j )⟩
    exact t_iret hQ X hT (⟨rg_all _, hfr⟩) (Nat.le_of_ble_eq_true rfl) (Nat.le_of_ble_eq_true rfl) dX13_fits_58
  · have w38488 := cv_ne (rfl : z38484.toInt = z38484.toInt) (by decide : (0 : Int32).toInt = 0) c38485
    have w38489 := (fun h => (iz38484 h)) (by omega)
    refine lv_aload_n hx hb dX13_fits_13 rfl (lv_at hl 0 rfl) ?_
    refine lv_aload_n hx hb dX13_fits_14 rfl (lv_at hl 0 rfl) ?_
    refine t_get (C := RX13) (T := TX13) (N := 37) X hT m0 g0 rfl rfl 16 (by decide) qw_112 inlX13 rfl dX13_fits_15 (fun v38490 hv38490 ov38490 => ?_)
    obtain ⟨b38491, rfl, mb38491, gb38491⟩ := okV_r ov38490
    have gb38491 : tag b38491 = 37 := tg_of gb38491
    refine lv_iconst (v := 0) hx hb dX13_fits_18 (by decide) ?_
    refine lv_iload_n hx hb dX13_fits_19 rfl (lv_at hl 1 rfl) ?_
    refine lv_iadd hx hb dX13_fits_20 ?_
    refine lv_topi (fun z38492 ez38492 => ?_)
    obtain rfl : p1 = z38492 := (ar_zadd ez38492).symm
    refine t_ild X hT mb38491 gb38491 rfl (by omega) dX13_fits_21 (fun z38493 vz38493 rz38493 => ?_)
    have rz38493 := row_ml (by omega) rz38493
    refine lv_bipush (v := 6) hx hb dX13_fits_22 (by decide) ?_
    refine lv_icmp_ge (tgt := 46) hx hb dX13_fits_24 (by decide) (fun c38494 => ?_) (fun c38494 => ?_)
    · have w38495 := cv_le (by decide : (6 : Int32).toInt = 6) (rfl : z38493.toInt = z38493.toInt) c38494
      refine lv_iconst (v := 0) hx hb dX13_fits_46 (by decide) ?_
      refine t_cVi (n := 1) (C := RX13) (T := TX13) (N := 37) (As := [.int 0]) (rest := []) X hT (km93_X13_good l G tag L F hT.2.2.2 p0 0 m0 g0) m0 g0 rfl rfl qw_687 qw_688 qw_689 qw_5 qw_690 ⟨rfl, by decide +kernel, by decide +kernel, by decide +kernel⟩ ⟨Nat.le_of_ble_eq_true rfl, Nat.le_of_ble_eq_true rfl⟩ hl rfl rfl (Nat.le_of_ble_eq_true rfl) dX13_fits_47 ⟨Nat.le_of_ble_eq_true rfl, Nat.le_of_ble_eq_true rfl⟩ (fun z38496 F H locs hT hz38496 => ?_)
      obtain ⟨hz38496, yz38496⟩ := hz38496
      have pf0 := (yz38496.1 _ 3 (Or.inr (by decide)) (Or.inr (by decide))).trans pf0
      have v38483 := (yz38496.1 _ 0 (Or.inr (by decide)) (Or.inr (by decide))).trans v38483
      have hv38490 := (yz38496.1 _ 16 (Or.inr (by decide)) (Or.inr (by decide))).trans hv38490
      have vz38493 := (yz38496.2 _ _ ).trans vz38493
      have hfr : (∀ b j : Nat, (tag b ≠ 46 ∨ j ≠ 0) → (tag b ≠ 46 ∨ j ≠ 1) → (tag b ≠ 46 ∨ j ≠ 2) → fld F b j = fld Fo b j) ∧ (∀ b j : Nat, elm F b j = elm Fo b j) := ⟨fun b j n46_0 n46_1 n46_2 => (yz38496.1 b j n46_1 n46_2).trans (hfr.1 b j n46_0 n46_1 n46_2), fun b j  => (yz38496.2 b j ).trans (hfr.2 b j )⟩
      refine lv_goto (tgt := 58) hx hb dX13_fits_50 (by decide) ?_
      exact t_iret hQ X hT (⟨rg_all _, hfr⟩) (Nat.le_of_ble_eq_true rfl) (Nat.le_of_ble_eq_true rfl) dX13_fits_58
    · have w38497 := cv_nle (by decide : (6 : Int32).toInt = 6) (rfl : z38493.toInt = z38493.toInt) c38494
      refine lv_aload_n hx hb dX13_fits_27 rfl (lv_at hl 0 rfl) ?_
      refine t_get (C := RX13) (T := TX13) (N := 37) X hT m0 g0 rfl rfl 3 (by decide) qw_481 inlX13 rfl dX13_fits_28 (fun v38498 hv38498 ov38498 => ?_)
      obtain rfl : v38498 = .ref x0 := hv38498.symm.trans pf0
      refine lv_aload_n hx hb dX13_fits_31 rfl (lv_at hl 0 rfl) ?_
      refine t_get (C := RX13) (T := TX13) (N := 37) X hT m0 g0 rfl rfl 16 (by decide) qw_112 inlX13 rfl dX13_fits_32 (fun v38499 hv38499 ov38499 => ?_)
      obtain rfl : v38499 = .ref b38491 := hv38499.symm.trans hv38490
      refine lv_iload_n hx hb dX13_fits_35 rfl (lv_at hl 1 rfl) ?_
      refine t_cSi (n := 3) (As := [.ref x0, .ref b38491, .int p1]) (rest := [.ref p0]) X hT (km138_X13_fitsIn l G tag L F hT.2.2.2 x0 b38491 p1 mx0 gx0 mb38491 gb38491 (by omega)) qw_644 qw_645 qw_5 qw_646 ⟨by decide +kernel, by decide +kernel, by decide +kernel⟩ ⟨Nat.le_of_ble_eq_true rfl, Nat.le_of_ble_eq_true rfl⟩ hl rfl rfl (Nat.le_of_ble_eq_true rfl) dX13_fits_36 ⟨Nat.le_of_ble_eq_true rfl, Nat.le_of_ble_eq_true rfl⟩ (fun z38500 F9 H locs hT hz38500 => ?_)
      obtain ⟨fz38500, hz38500⟩ := hz38500
      rw [fz38500] at hT
      refine lv_if_eq (tgt := 46) hx hb dX13_fits_39 (by decide) (fun c38501 => ?_) (fun c38501 => ?_)
      · have w38502 := cv_eq (rfl : z38500.toInt = z38500.toInt) (by decide : (0 : Int32).toInt = 0) c38501
        refine lv_iconst (v := 0) hx hb dX13_fits_46 (by decide) ?_
        refine t_cVi (n := 1) (C := RX13) (T := TX13) (N := 37) (As := [.int 0]) (rest := []) X hT (km93_X13_good l G tag L F hT.2.2.2 p0 0 m0 g0) m0 g0 rfl rfl qw_687 qw_688 qw_689 qw_5 qw_690 ⟨rfl, by decide +kernel, by decide +kernel, by decide +kernel⟩ ⟨Nat.le_of_ble_eq_true rfl, Nat.le_of_ble_eq_true rfl⟩ hl rfl rfl (Nat.le_of_ble_eq_true rfl) dX13_fits_47 ⟨Nat.le_of_ble_eq_true rfl, Nat.le_of_ble_eq_true rfl⟩ (fun z38503 F H locs hT hz38503 => ?_)
        obtain ⟨hz38503, yz38503⟩ := hz38503
        have pf0 := (yz38503.1 _ 3 (Or.inr (by decide)) (Or.inr (by decide))).trans pf0
        have v38483 := (yz38503.1 _ 0 (Or.inr (by decide)) (Or.inr (by decide))).trans v38483
        have hv38490 := (yz38503.1 _ 16 (Or.inr (by decide)) (Or.inr (by decide))).trans hv38490
        have vz38493 := (yz38503.2 _ _ ).trans vz38493
        have hfr : (∀ b j : Nat, (tag b ≠ 46 ∨ j ≠ 0) → (tag b ≠ 46 ∨ j ≠ 1) → (tag b ≠ 46 ∨ j ≠ 2) → fld F b j = fld Fo b j) ∧ (∀ b j : Nat, elm F b j = elm Fo b j) := ⟨fun b j n46_0 n46_1 n46_2 => (yz38503.1 b j n46_1 n46_2).trans (hfr.1 b j n46_0 n46_1 n46_2), fun b j  => (yz38503.2 b j ).trans (hfr.2 b j )⟩
        refine lv_goto (tgt := 58) hx hb dX13_fits_50 (by decide) ?_
        exact t_iret hQ X hT (⟨rg_all _, hfr⟩) (Nat.le_of_ble_eq_true rfl) (Nat.le_of_ble_eq_true rfl) dX13_fits_58
      · have w38504 := cv_ne (rfl : z38500.toInt = z38500.toInt) (by decide : (0 : Int32).toInt = 0) c38501
        refine lv_iconst (v := 1) hx hb dX13_fits_42 (by decide) ?_
        refine lv_goto (tgt := 47) hx hb dX13_fits_43 (by decide) ?_
        refine t_cVi (n := 1) (C := RX13) (T := TX13) (N := 37) (As := [.int 1]) (rest := []) X hT (km93_X13_good l G tag L F hT.2.2.2 p0 1 m0 g0) m0 g0 rfl rfl qw_687 qw_688 qw_689 qw_5 qw_690 ⟨rfl, by decide +kernel, by decide +kernel, by decide +kernel⟩ ⟨Nat.le_of_ble_eq_true rfl, Nat.le_of_ble_eq_true rfl⟩ hl rfl rfl (Nat.le_of_ble_eq_true rfl) dX13_fits_47 ⟨Nat.le_of_ble_eq_true rfl, Nat.le_of_ble_eq_true rfl⟩ (fun z38505 F H locs hT hz38505 => ?_)
        obtain ⟨hz38505, yz38505⟩ := hz38505
        have pf0 := (yz38505.1 _ 3 (Or.inr (by decide)) (Or.inr (by decide))).trans pf0
        have v38483 := (yz38505.1 _ 0 (Or.inr (by decide)) (Or.inr (by decide))).trans v38483
        have hv38490 := (yz38505.1 _ 16 (Or.inr (by decide)) (Or.inr (by decide))).trans hv38490
        have vz38493 := (yz38505.2 _ _ ).trans vz38493
        have hfr : (∀ b j : Nat, (tag b ≠ 46 ∨ j ≠ 0) → (tag b ≠ 46 ∨ j ≠ 1) → (tag b ≠ 46 ∨ j ≠ 2) → fld F b j = fld Fo b j) ∧ (∀ b j : Nat, elm F b j = elm Fo b j) := ⟨fun b j n46_0 n46_1 n46_2 => (yz38505.1 b j n46_1 n46_2).trans (hfr.1 b j n46_0 n46_1 n46_2), fun b j  => (yz38505.2 b j ).trans (hfr.2 b j )⟩
        refine lv_goto (tgt := 58) hx hb dX13_fits_50 (by decide) ?_
        exact t_iret hQ X hT (⟨rg_all _, hfr⟩) (Nat.le_of_ble_eq_true rfl) (Nat.le_of_ble_eq_true rfl) dX13_fits_58
