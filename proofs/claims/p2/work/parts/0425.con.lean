set_option maxHeartbeats 4000000 in
set_option maxRecDepth 100000 in
theorem km165_X13_through (l : Launch) (G : KG) (tag : Nat → Nat) (L : List Nat) (Fo : Nat → va_E) (ho : okT G ttC tag L Fo) (p0 : Nat) (p1 : Int32) (p2 : Int32) (x0 : Nat) (m0 : p0 ∈ L) (g0 : tag p0 = 46) (mx0 : x0 ∈ L) (gx0 : tag x0 = 45) (pf0 : fld Fo p0 3 = .ref x0) : TMi l yX13_through cX13_through 3 (some .int) { frames := 3, cells := 0, slots := 0, locals := 75 } G ttC tag L Fo [.ref p0, .int p1, .int p2] (fun r F1 => ((-2147483648) ≤ r.toInt ∧ r.toInt ≤ 2147483647) ∧ ((∀ b j : Nat, (tag b ≠ 46 ∨ j ≠ 0) → (tag b ≠ 46 ∨ j ≠ 1) → (tag b ≠ 46 ∨ j ≠ 2) → fld F1 b j = fld Fo b j) ∧ (∀ b j : Nat, tag b ≠ 42 → elm F1 b j = elm Fo b j))) := by
  refine t_bodyi (y := yX13_through) (cd := cX13_through) (mL := 3) (rt := (some .int)) (rm := { frames := 3, cells := 0, slots := 0, locals := 75 }) (av := [.ref p0, .int p1, .int p2]) (by decide) (Nat.le_of_ble_eq_true rfl) ho ?_
  intro p e s m args below meth c ls A Q hQ X hT hl
  have hx := X.1.1
  have hb := X.1.2.1
  have hl : lv_has ls 3 [(0, .ref p0), (1, .int p1), (2, .int p2)] := hl
  have rp1 := rg_all p1
  have rp2 := rg_all p2
  obtain ⟨F, hFo⟩ : ∃ F : Nat → va_E, F = Fo := ⟨_, rfl⟩
  rw [← hFo] at hT pf0
  have hfr : (∀ b j : Nat, (tag b ≠ 46 ∨ j ≠ 0) → (tag b ≠ 46 ∨ j ≠ 1) → (tag b ≠ 46 ∨ j ≠ 2) → fld F b j = fld Fo b j) ∧ (∀ b j : Nat, tag b ≠ 42 → elm F b j = elm Fo b j) := by
    rw [hFo]
    exact ⟨by intros; rfl, by intros; rfl⟩
  refine lv_aload_n hx hb dX13_through_0 rfl (lv_at hl 0 rfl) ?_
  refine lv_iconst (v := 0) hx hb dX13_through_1 (by decide) ?_
  refine t_put (C := RX13) (T := TX13) (N := 37) (v := .int 0) X hT m0 g0 rfl tyX13 tyX13_ok nmX13 rfl 0 (by decide) qw_140 inlX13 rfl (by first | rfl | decide) (by first | rfl | decide) rfl (⟨_, rfl, (show (-2147483648) ≤ (0 : Int32).toInt from (by decide)), (show (0 : Int32).toInt ≤ 2147483647 from (by decide))⟩) dX13_through_2 (fun F H locs hT v47523 h1v47523 h2v47523 => ?_)
  have pf0 := (h1v47523 _ _ (Or.inr (by decide))).trans pf0
  have hfr : (∀ b j : Nat, (tag b ≠ 46 ∨ j ≠ 0) → (tag b ≠ 46 ∨ j ≠ 1) → (tag b ≠ 46 ∨ j ≠ 2) → fld F b j = fld Fo b j) ∧ (∀ b j : Nat, tag b ≠ 42 → elm F b j = elm Fo b j) := ⟨fun b j n46_0 n46_1 n46_2 => (h1v47523 b j (fr_ne g0 n46_0)).trans (hfr.1 b j n46_0 n46_1 n46_2), fun b j a42 => (h2v47523 b j).trans (hfr.2 b j a42)⟩
  refine lv_aload_n hx hb dX13_through_5 rfl (lv_at hl 0 rfl) ?_
  refine lv_iload_n hx hb dX13_through_6 rfl (lv_at hl 1 rfl) ?_
  refine lv_iload_n hx hb dX13_through_7 rfl (lv_at hl 2 rfl) ?_
  refine t_cVi (n := 2) (C := RX13) (T := TX13) (N := 37) (As := [.int p1, .int p2]) (rest := []) X hT (km124_X13_isDepth l G tag L F hT.2.2.2 p0 p1 p2 x0 m0 g0 mx0 gx0 pf0) m0 g0 rfl rfl qw_865 qw_866 qw_867 qw_5 qw_868 ⟨rfl, by decide +kernel, by decide +kernel, by decide +kernel⟩ ⟨Nat.le_of_ble_eq_true rfl, Nat.le_of_ble_eq_true rfl⟩ hl rfl rfl (Nat.le_of_ble_eq_true rfl) dX13_through_8 ⟨Nat.le_of_ble_eq_true rfl, Nat.le_of_ble_eq_true rfl⟩ (fun z47524 F9 H locs hT hz47524 => ?_)
  obtain ⟨fz47524, hz47524⟩ := hz47524
  rw [fz47524] at hT
  obtain ⟨hz47524, iz47524⟩ := hz47524
  refine lv_if_eq (tgt := 30) hx hb dX13_through_11 (by decide) (fun c47525 => ?_) (fun c47525 => ?_)
  · have w47526 := cv_eq (rfl : z47524.toInt = z47524.toInt) (by decide : (0 : Int32).toInt = 0) c47525
    refine lv_aload_n hx hb dX13_through_30 rfl (lv_at hl 0 rfl) ?_
    refine lv_iconst (v := 1) hx hb dX13_through_31 (by decide) ?_
    refine t_cVi (n := 1) (C := RX13) (T := TX13) (N := 37) (As := [.int 1]) (rest := []) X hT (km88_X13_refused l G tag L F hT.2.2.2 p0 1 m0 g0) m0 g0 rfl rfl qw_484 qw_485 qw_486 qw_5 qw_487 ⟨rfl, by decide +kernel, by decide +kernel, by decide +kernel⟩ ⟨Nat.le_of_ble_eq_true rfl, Nat.le_of_ble_eq_true rfl⟩ hl rfl rfl (Nat.le_of_ble_eq_true rfl) dX13_through_32 ⟨Nat.le_of_ble_eq_true rfl, Nat.le_of_ble_eq_true rfl⟩ (fun z47527 F H locs hT hz47527 => ?_)
    obtain ⟨hz47527, yz47527⟩ := hz47527
    have pf0 := (yz47527.1 _ 3 (Or.inr (by decide)) (Or.inr (by decide))).trans pf0
    have v47523 := (yz47527.1 _ 0 (Or.inr (by decide)) (Or.inr (by decide))).trans v47523
    have hfr : (∀ b j : Nat, (tag b ≠ 46 ∨ j ≠ 0) → (tag b ≠ 46 ∨ j ≠ 1) → (tag b ≠ 46 ∨ j ≠ 2) → fld F b j = fld Fo b j) ∧ (∀ b j : Nat, tag b ≠ 42 → elm F b j = elm Fo b j) := ⟨fun b j n46_0 n46_1 n46_2 => (yz47527.1 b j n46_1 n46_2).trans (hfr.1 b j n46_0 n46_1 n46_2), fun b j a42 => (yz47527.2 b j ).trans (hfr.2 b j a42)⟩
    exact t_iret hQ X hT (⟨rg_all _, hfr⟩) (Nat.le_of_ble_eq_true rfl) (Nat.le_of_ble_eq_true rfl) dX13_through_35
  · have w47528 := cv_ne (rfl : z47524.toInt = z47524.toInt) (by decide : (0 : Int32).toInt = 0) c47525
    have w47529 := (fun h => (iz47524 h).1) (by omega)
    have w47530 := (fun h => (iz47524 h).2) (by omega)
    refine lv_aload_n hx hb dX13_through_14 rfl (lv_at hl 0 rfl) ?_
    refine lv_aload_n hx hb dX13_through_15 rfl (lv_at hl 0 rfl) ?_
    refine lv_iload_n hx hb dX13_through_16 rfl (lv_at hl 1 rfl) ?_
    refine lv_iload_n hx hb dX13_through_17 rfl (lv_at hl 2 rfl) ?_
    refine t_cVi (n := 2) (C := RX13) (T := TX13) (N := 37) (As := [.int p1, .int p2]) (rest := [.ref p0]) X hT (km164_X13_throughTo l G tag L F hT.2.2.2 p0 p1 p2 x0 m0 g0 (by omega) (by omega) mx0 gx0 pf0) m0 g0 rfl rfl qw_1056 qw_1057 qw_1058 qw_5 qw_1059 ⟨rfl, by decide +kernel, by decide +kernel, by decide +kernel⟩ ⟨Nat.le_of_ble_eq_true rfl, Nat.le_of_ble_eq_true rfl⟩ hl rfl rfl (Nat.le_of_ble_eq_true rfl) dX13_through_18 ⟨Nat.le_of_ble_eq_true rfl, Nat.le_of_ble_eq_true rfl⟩ (fun z47531 F H locs hT hz47531 => ?_)
    obtain ⟨hz47531, yz47531⟩ := hz47531
    have pf0 := (yz47531.1 _ 3 ).trans pf0
    have v47523 := (yz47531.1 _ 0 ).trans v47523
    have hfr : (∀ b j : Nat, (tag b ≠ 46 ∨ j ≠ 0) → (tag b ≠ 46 ∨ j ≠ 1) → (tag b ≠ 46 ∨ j ≠ 2) → fld F b j = fld Fo b j) ∧ (∀ b j : Nat, tag b ≠ 42 → elm F b j = elm Fo b j) := ⟨fun b j n46_0 n46_1 n46_2 => (yz47531.1 b j ).trans (hfr.1 b j n46_0 n46_1 n46_2), fun b j a42 => (yz47531.2 b j a42).trans (hfr.2 b j a42)⟩
    refine lv_bipush (v := 100) hx hb dX13_through_21 (by decide) ?_
    refine lv_idiv hx hb dX13_through_23 (by decide) ?_
    refine lv_topi (fun z47532 ez47532 => ?_)
    have rz47532 := rg_all z47532
    refine t_cVi (n := 1) (C := RX13) (T := TX13) (N := 37) (As := [.int z47532]) (rest := []) X hT (km93_X13_good l G tag L F hT.2.2.2 p0 z47532 m0 g0) m0 g0 rfl rfl qw_687 qw_688 qw_689 qw_5 qw_690 ⟨rfl, by decide +kernel, by decide +kernel, by decide +kernel⟩ ⟨Nat.le_of_ble_eq_true rfl, Nat.le_of_ble_eq_true rfl⟩ hl rfl rfl (Nat.le_of_ble_eq_true rfl) dX13_through_24 ⟨Nat.le_of_ble_eq_true rfl, Nat.le_of_ble_eq_true rfl⟩ (fun z47533 F H locs hT hz47533 => ?_)
    obtain ⟨hz47533, yz47533⟩ := hz47533
    have pf0 := (yz47533.1 _ 3 (Or.inr (by decide)) (Or.inr (by decide))).trans pf0
    have v47523 := (yz47533.1 _ 0 (Or.inr (by decide)) (Or.inr (by decide))).trans v47523
    have hfr : (∀ b j : Nat, (tag b ≠ 46 ∨ j ≠ 0) → (tag b ≠ 46 ∨ j ≠ 1) → (tag b ≠ 46 ∨ j ≠ 2) → fld F b j = fld Fo b j) ∧ (∀ b j : Nat, tag b ≠ 42 → elm F b j = elm Fo b j) := ⟨fun b j n46_0 n46_1 n46_2 => (yz47533.1 b j n46_1 n46_2).trans (hfr.1 b j n46_0 n46_1 n46_2), fun b j a42 => (yz47533.2 b j ).trans (hfr.2 b j a42)⟩
    refine lv_goto (tgt := 35) hx hb dX13_through_27 (by decide) ?_
    exact t_iret hQ X hT (⟨rg_all _, hfr⟩) (Nat.le_of_ble_eq_true rfl) (Nat.le_of_ble_eq_true rfl) dX13_through_35
set_option maxHeartbeats 4000000 in
set_option maxRecDepth 100000 in
theorem km166_X13_through (l : Launch) (G : KG) (tag : Nat → Nat) (L : List Nat) (Fo : Nat → va_E) (ho : okT G ttC tag L Fo) (p0 : Nat) (p1 : Int32) (p2 : Int32) (m0 : p0 ∈ L) (g0 : tag p0 = 46) (pf0 : fld Fo p0 3 = .null) : TMi l yX13_through cX13_through 3 (some .int) { frames := 3, cells := 0, slots := 0, locals := 75 } G ttC tag L Fo [.ref p0, .int p1, .int p2] (fun r F1 => ((-2147483648) ≤ r.toInt ∧ r.toInt ≤ 2147483647) ∧ ((∀ b j : Nat, (tag b ≠ 46 ∨ j ≠ 0) → (tag b ≠ 46 ∨ j ≠ 1) → (tag b ≠ 46 ∨ j ≠ 2) → fld F1 b j = fld Fo b j) ∧ (∀ b j : Nat, tag b ≠ 42 → elm F1 b j = elm Fo b j))) := by
  refine t_bodyi (y := yX13_through) (cd := cX13_through) (mL := 3) (rt := (some .int)) (rm := { frames := 3, cells := 0, slots := 0, locals := 75 }) (av := [.ref p0, .int p1, .int p2]) (by decide) (Nat.le_of_ble_eq_true rfl) ho ?_
  intro p e s m args below meth c ls A Q hQ X hT hl
  have hx := X.1.1
  have hb := X.1.2.1
  have hl : lv_has ls 3 [(0, .ref p0), (1, .int p1), (2, .int p2)] := hl
  have rp1 := rg_all p1
  have rp2 := rg_all p2
  obtain ⟨F, hFo⟩ : ∃ F : Nat → va_E, F = Fo := ⟨_, rfl⟩
  rw [← hFo] at hT pf0
  have hfr : (∀ b j : Nat, (tag b ≠ 46 ∨ j ≠ 0) → (tag b ≠ 46 ∨ j ≠ 1) → (tag b ≠ 46 ∨ j ≠ 2) → fld F b j = fld Fo b j) ∧ (∀ b j : Nat, tag b ≠ 42 → elm F b j = elm Fo b j) := by
    rw [hFo]
    exact ⟨by intros; rfl, by intros; rfl⟩
  refine lv_aload_n hx hb dX13_through_0 rfl (lv_at hl 0 rfl) ?_
  refine lv_iconst (v := 0) hx hb dX13_through_1 (by decide) ?_
  refine t_put (C := RX13) (T := TX13) (N := 37) (v := .int 0) X hT m0 g0 rfl tyX13 tyX13_ok nmX13 rfl 0 (by decide) qw_140 inlX13 rfl (by first | rfl | decide) (by first | rfl | decide) rfl (⟨_, rfl, (show (-2147483648) ≤ (0 : Int32).toInt from (by decide)), (show (0 : Int32).toInt ≤ 2147483647 from (by decide))⟩) dX13_through_2 (fun F H locs hT v47600 h1v47600 h2v47600 => ?_)
  have pf0 := (h1v47600 _ _ (Or.inr (by decide))).trans pf0
  have hfr : (∀ b j : Nat, (tag b ≠ 46 ∨ j ≠ 0) → (tag b ≠ 46 ∨ j ≠ 1) → (tag b ≠ 46 ∨ j ≠ 2) → fld F b j = fld Fo b j) ∧ (∀ b j : Nat, tag b ≠ 42 → elm F b j = elm Fo b j) := ⟨fun b j n46_0 n46_1 n46_2 => (h1v47600 b j (fr_ne g0 n46_0)).trans (hfr.1 b j n46_0 n46_1 n46_2), fun b j a42 => (h2v47600 b j).trans (hfr.2 b j a42)⟩
  refine lv_aload_n hx hb dX13_through_5 rfl (lv_at hl 0 rfl) ?_
  refine lv_iload_n hx hb dX13_through_6 rfl (lv_at hl 1 rfl) ?_
  refine lv_iload_n hx hb dX13_through_7 rfl (lv_at hl 2 rfl) ?_
  refine t_cVi (n := 2) (C := RX13) (T := TX13) (N := 37) (As := [.int p1, .int p2]) (rest := []) X hT (km127_X13_isDepth l G tag L F hT.2.2.2 p0 p1 p2 m0 g0 pf0) m0 g0 rfl rfl qw_865 qw_866 qw_867 qw_5 qw_868 ⟨rfl, by decide +kernel, by decide +kernel, by decide +kernel⟩ ⟨Nat.le_of_ble_eq_true rfl, Nat.le_of_ble_eq_true rfl⟩ hl rfl rfl (Nat.le_of_ble_eq_true rfl) dX13_through_8 ⟨Nat.le_of_ble_eq_true rfl, Nat.le_of_ble_eq_true rfl⟩ (fun z47601 F9 H locs hT hz47601 => ?_)
  obtain ⟨fz47601, hz47601⟩ := hz47601
  rw [fz47601] at hT
  refine lv_if_eq (tgt := 30) hx hb dX13_through_11 (by decide) (fun c47602 => ?_) (fun c47602 => ?_)
  · have w47603 := cv_eq (rfl : z47601.toInt = z47601.toInt) (by decide : (0 : Int32).toInt = 0) c47602
    refine lv_aload_n hx hb dX13_through_30 rfl (lv_at hl 0 rfl) ?_
    refine lv_iconst (v := 1) hx hb dX13_through_31 (by decide) ?_
    refine t_cVi (n := 1) (C := RX13) (T := TX13) (N := 37) (As := [.int 1]) (rest := []) X hT (km88_X13_refused l G tag L F hT.2.2.2 p0 1 m0 g0) m0 g0 rfl rfl qw_484 qw_485 qw_486 qw_5 qw_487 ⟨rfl, by decide +kernel, by decide +kernel, by decide +kernel⟩ ⟨Nat.le_of_ble_eq_true rfl, Nat.le_of_ble_eq_true rfl⟩ hl rfl rfl (Nat.le_of_ble_eq_true rfl) dX13_through_32 ⟨Nat.le_of_ble_eq_true rfl, Nat.le_of_ble_eq_true rfl⟩ (fun z47604 F H locs hT hz47604 => ?_)
    obtain ⟨hz47604, yz47604⟩ := hz47604
    have pf0 := (yz47604.1 _ 3 (Or.inr (by decide)) (Or.inr (by decide))).trans pf0
    have v47600 := (yz47604.1 _ 0 (Or.inr (by decide)) (Or.inr (by decide))).trans v47600
    have hfr : (∀ b j : Nat, (tag b ≠ 46 ∨ j ≠ 0) → (tag b ≠ 46 ∨ j ≠ 1) → (tag b ≠ 46 ∨ j ≠ 2) → fld F b j = fld Fo b j) ∧ (∀ b j : Nat, tag b ≠ 42 → elm F b j = elm Fo b j) := ⟨fun b j n46_0 n46_1 n46_2 => (yz47604.1 b j n46_1 n46_2).trans (hfr.1 b j n46_0 n46_1 n46_2), fun b j a42 => (yz47604.2 b j ).trans (hfr.2 b j a42)⟩
    exact t_iret hQ X hT (⟨rg_all _, hfr⟩) (Nat.le_of_ble_eq_true rfl) (Nat.le_of_ble_eq_true rfl) dX13_through_35
  · have w47605 := cv_ne (rfl : z47601.toInt = z47601.toInt) (by decide : (0 : Int32).toInt = 0) c47602
    exfalso
    omega
theorem kp_X13_through (l : Launch) (G : KG) (tag : Nat → Nat) (L : List Nat) (Fo : Nat → va_E) (ho : okT G ttC tag L Fo) (p0 : Nat) (p1 : Int32) (p2 : Int32) (m0 : p0 ∈ L) (g0 : tag p0 = 46) : TMi l yX13_through cX13_through 3 (some .int) { frames := 3, cells := 0, slots := 0, locals := 75 } G ttC tag L Fo [.ref p0, .int p1, .int p2] (fun r F1 => ((-2147483648) ≤ r.toInt ∧ r.toInt ≤ 2147483647) ∧ ((∀ b j : Nat, (tag b ≠ 46 ∨ j ≠ 0) → (tag b ≠ 46 ∨ j ≠ 1) → (tag b ≠ 46 ∨ j ≠ 2) → fld F1 b j = fld Fo b j) ∧ (∀ b j : Nat, tag b ≠ 42 → elm F1 b j = elm Fo b j))) := by
  rcases t_fldn ho m0 g0 rfl 3 rfl with h9 | ⟨b9, h9, m9, t9⟩
  · exact km166_X13_through l G tag L Fo ho p0 p1 p2  m0 g0 h9 
  · exact km165_X13_through l G tag L Fo ho p0 p1 p2 b9  m0 g0 m9 (tg_of t9) h9 
set_option maxHeartbeats 4000000 in
set_option maxRecDepth 100000 in
theorem km168_X13_breaks (l : Launch) (G : KG) (tag : Nat → Nat) (L : List Nat) (Fo : Nat → va_E) (ho : okT G ttC tag L Fo) (p0 : Nat) (p1 : Int32) (p2 : Int32) (x0 : Nat) (m0 : p0 ∈ L) (g0 : tag p0 = 46) (mx0 : x0 ∈ L) (gx0 : tag x0 = 45) (pf0 : fld Fo p0 3 = .ref x0) : TMi l yX13_breaks cX13_breaks 3 (some .int) { frames := 3, cells := 0, slots := 0, locals := 75 } G ttC tag L Fo [.ref p0, .int p1, .int p2] (fun r F1 => ((-2147483648) ≤ r.toInt ∧ r.toInt ≤ 2147483647) ∧ ((∀ b j : Nat, (tag b ≠ 46 ∨ j ≠ 0) → (tag b ≠ 46 ∨ j ≠ 1) → (tag b ≠ 46 ∨ j ≠ 2) → fld F1 b j = fld Fo b j) ∧ (∀ b j : Nat, tag b ≠ 42 → elm F1 b j = elm Fo b j))) := by
  refine t_bodyi (y := yX13_breaks) (cd := cX13_breaks) (mL := 3) (rt := (some .int)) (rm := { frames := 3, cells := 0, slots := 0, locals := 75 }) (av := [.ref p0, .int p1, .int p2]) (by decide) (Nat.le_of_ble_eq_true rfl) ho ?_
  intro p e s m args below meth c ls A Q hQ X hT hl
  have hx := X.1.1
  have hb := X.1.2.1
  have hl : lv_has ls 3 [(0, .ref p0), (1, .int p1), (2, .int p2)] := hl
  have rp1 := rg_all p1
  have rp2 := rg_all p2
  obtain ⟨F, hFo⟩ : ∃ F : Nat → va_E, F = Fo := ⟨_, rfl⟩
  rw [← hFo] at hT pf0
  have hfr : (∀ b j : Nat, (tag b ≠ 46 ∨ j ≠ 0) → (tag b ≠ 46 ∨ j ≠ 1) → (tag b ≠ 46 ∨ j ≠ 2) → fld F b j = fld Fo b j) ∧ (∀ b j : Nat, tag b ≠ 42 → elm F b j = elm Fo b j) := by
    rw [hFo]
    exact ⟨by intros; rfl, by intros; rfl⟩
  refine lv_aload_n hx hb dX13_breaks_0 rfl (lv_at hl 0 rfl) ?_
  refine lv_iconst (v := 0) hx hb dX13_breaks_1 (by decide) ?_
  refine t_put (C := RX13) (T := TX13) (N := 37) (v := .int 0) X hT m0 g0 rfl tyX13 tyX13_ok nmX13 rfl 0 (by decide) qw_140 inlX13 rfl (by first | rfl | decide) (by first | rfl | decide) rfl (⟨_, rfl, (show (-2147483648) ≤ (0 : Int32).toInt from (by decide)), (show (0 : Int32).toInt ≤ 2147483647 from (by decide))⟩) dX13_breaks_2 (fun F H locs hT v47727 h1v47727 h2v47727 => ?_)
  have pf0 := (h1v47727 _ _ (Or.inr (by decide))).trans pf0
  have hfr : (∀ b j : Nat, (tag b ≠ 46 ∨ j ≠ 0) → (tag b ≠ 46 ∨ j ≠ 1) → (tag b ≠ 46 ∨ j ≠ 2) → fld F b j = fld Fo b j) ∧ (∀ b j : Nat, tag b ≠ 42 → elm F b j = elm Fo b j) := ⟨fun b j n46_0 n46_1 n46_2 => (h1v47727 b j (fr_ne g0 n46_0)).trans (hfr.1 b j n46_0 n46_1 n46_2), fun b j a42 => (h2v47727 b j).trans (hfr.2 b j a42)⟩
  refine lv_aload_n hx hb dX13_breaks_5 rfl (lv_at hl 0 rfl) ?_
  refine lv_iload_n hx hb dX13_breaks_6 rfl (lv_at hl 1 rfl) ?_
  refine lv_iload_n hx hb dX13_breaks_7 rfl (lv_at hl 2 rfl) ?_
  refine t_cVi (n := 2) (C := RX13) (T := TX13) (N := 37) (As := [.int p1, .int p2]) (rest := []) X hT (km124_X13_isDepth l G tag L F hT.2.2.2 p0 p1 p2 x0 m0 g0 mx0 gx0 pf0) m0 g0 rfl rfl qw_865 qw_866 qw_867 qw_5 qw_868 ⟨rfl, by decide +kernel, by decide +kernel, by decide +kernel⟩ ⟨Nat.le_of_ble_eq_true rfl, Nat.le_of_ble_eq_true rfl⟩ hl rfl rfl (Nat.le_of_ble_eq_true rfl) dX13_breaks_8 ⟨Nat.le_of_ble_eq_true rfl, Nat.le_of_ble_eq_true rfl⟩ (fun z47728 F9 H locs hT hz47728 => ?_)
  obtain ⟨fz47728, hz47728⟩ := hz47728
  rw [fz47728] at hT
  obtain ⟨hz47728, iz47728⟩ := hz47728
  refine lv_if_eq (tgt := 30) hx hb dX13_breaks_11 (by decide) (fun c47729 => ?_) (fun c47729 => ?_)
  · have w47730 := cv_eq (rfl : z47728.toInt = z47728.toInt) (by decide : (0 : Int32).toInt = 0) c47729
    refine lv_aload_n hx hb dX13_breaks_30 rfl (lv_at hl 0 rfl) ?_
    refine lv_iconst (v := 1) hx hb dX13_breaks_31 (by decide) ?_
    refine t_cVi (n := 1) (C := RX13) (T := TX13) (N := 37) (As := [.int 1]) (rest := []) X hT (km88_X13_refused l G tag L F hT.2.2.2 p0 1 m0 g0) m0 g0 rfl rfl qw_484 qw_485 qw_486 qw_5 qw_487 ⟨rfl, by decide +kernel, by decide +kernel, by decide +kernel⟩ ⟨Nat.le_of_ble_eq_true rfl, Nat.le_of_ble_eq_true rfl⟩ hl rfl rfl (Nat.le_of_ble_eq_true rfl) dX13_breaks_32 ⟨Nat.le_of_ble_eq_true rfl, Nat.le_of_ble_eq_true rfl⟩ (fun z47731 F H locs hT hz47731 => ?_)
    obtain ⟨hz47731, yz47731⟩ := hz47731
    have pf0 := (yz47731.1 _ 3 (Or.inr (by decide)) (Or.inr (by decide))).trans pf0
    have v47727 := (yz47731.1 _ 0 (Or.inr (by decide)) (Or.inr (by decide))).trans v47727
    have hfr : (∀ b j : Nat, (tag b ≠ 46 ∨ j ≠ 0) → (tag b ≠ 46 ∨ j ≠ 1) → (tag b ≠ 46 ∨ j ≠ 2) → fld F b j = fld Fo b j) ∧ (∀ b j : Nat, tag b ≠ 42 → elm F b j = elm Fo b j) := ⟨fun b j n46_0 n46_1 n46_2 => (yz47731.1 b j n46_1 n46_2).trans (hfr.1 b j n46_0 n46_1 n46_2), fun b j a42 => (yz47731.2 b j ).trans (hfr.2 b j a42)⟩
    exact t_iret hQ X hT (⟨rg_all _, hfr⟩) (Nat.le_of_ble_eq_true rfl) (Nat.le_of_ble_eq_true rfl) dX13_breaks_35
  · have w47732 := cv_ne (rfl : z47728.toInt = z47728.toInt) (by decide : (0 : Int32).toInt = 0) c47729
    have w47733 := (fun h => (iz47728 h).1) (by omega)
    have w47734 := (fun h => (iz47728 h).2) (by omega)
    refine lv_aload_n hx hb dX13_breaks_14 rfl (lv_at hl 0 rfl) ?_
    refine lv_aload_n hx hb dX13_breaks_15 rfl (lv_at hl 0 rfl) ?_
    refine lv_iload_n hx hb dX13_breaks_16 rfl (lv_at hl 1 rfl) ?_
    refine lv_iload_n hx hb dX13_breaks_17 rfl (lv_at hl 2 rfl) ?_
    refine t_cVi (n := 2) (C := RX13) (T := TX13) (N := 37) (As := [.int p1, .int p2]) (rest := [.ref p0]) X hT (km164_X13_throughTo l G tag L F hT.2.2.2 p0 p1 p2 x0 m0 g0 (by omega) (by omega) mx0 gx0 pf0) m0 g0 rfl rfl qw_1056 qw_1057 qw_1058 qw_5 qw_1059 ⟨rfl, by decide +kernel, by decide +kernel, by decide +kernel⟩ ⟨Nat.le_of_ble_eq_true rfl, Nat.le_of_ble_eq_true rfl⟩ hl rfl rfl (Nat.le_of_ble_eq_true rfl) dX13_breaks_18 ⟨Nat.le_of_ble_eq_true rfl, Nat.le_of_ble_eq_true rfl⟩ (fun z47735 F H locs hT hz47735 => ?_)
    obtain ⟨hz47735, yz47735⟩ := hz47735
    have pf0 := (yz47735.1 _ 3 ).trans pf0
    have v47727 := (yz47735.1 _ 0 ).trans v47727
    have hfr : (∀ b j : Nat, (tag b ≠ 46 ∨ j ≠ 0) → (tag b ≠ 46 ∨ j ≠ 1) → (tag b ≠ 46 ∨ j ≠ 2) → fld F b j = fld Fo b j) ∧ (∀ b j : Nat, tag b ≠ 42 → elm F b j = elm Fo b j) := ⟨fun b j n46_0 n46_1 n46_2 => (yz47735.1 b j ).trans (hfr.1 b j n46_0 n46_1 n46_2), fun b j a42 => (yz47735.2 b j a42).trans (hfr.2 b j a42)⟩
    refine lv_bipush (v := 100) hx hb dX13_breaks_21 (by decide) ?_
    refine lv_irem hx hb dX13_breaks_23 (by decide) ?_
    refine lv_topi (fun z47736 ez47736 => ?_)
    have rz47736 := rg_all z47736
    refine t_cVi (n := 1) (C := RX13) (T := TX13) (N := 37) (As := [.int z47736]) (rest := []) X hT (km93_X13_good l G tag L F hT.2.2.2 p0 z47736 m0 g0) m0 g0 rfl rfl qw_687 qw_688 qw_689 qw_5 qw_690 ⟨rfl, by decide +kernel, by decide +kernel, by decide +kernel⟩ ⟨Nat.le_of_ble_eq_true rfl, Nat.le_of_ble_eq_true rfl⟩ hl rfl rfl (Nat.le_of_ble_eq_true rfl) dX13_breaks_24 ⟨Nat.le_of_ble_eq_true rfl, Nat.le_of_ble_eq_true rfl⟩ (fun z47737 F H locs hT hz47737 => ?_)
    obtain ⟨hz47737, yz47737⟩ := hz47737
    have pf0 := (yz47737.1 _ 3 (Or.inr (by decide)) (Or.inr (by decide))).trans pf0
    have v47727 := (yz47737.1 _ 0 (Or.inr (by decide)) (Or.inr (by decide))).trans v47727
    have hfr : (∀ b j : Nat, (tag b ≠ 46 ∨ j ≠ 0) → (tag b ≠ 46 ∨ j ≠ 1) → (tag b ≠ 46 ∨ j ≠ 2) → fld F b j = fld Fo b j) ∧ (∀ b j : Nat, tag b ≠ 42 → elm F b j = elm Fo b j) := ⟨fun b j n46_0 n46_1 n46_2 => (yz47737.1 b j n46_1 n46_2).trans (hfr.1 b j n46_0 n46_1 n46_2), fun b j a42 => (yz47737.2 b j ).trans (hfr.2 b j a42)⟩
    refine lv_goto (tgt := 35) hx hb dX13_breaks_27 (by decide) ?_
    exact t_iret hQ X hT (⟨rg_all _, hfr⟩) (Nat.le_of_ble_eq_true rfl) (Nat.le_of_ble_eq_true rfl) dX13_breaks_35
set_option maxHeartbeats 4000000 in
set_option maxRecDepth 100000 in
theorem km169_X13_breaks (l : Launch) (G : KG) (tag : Nat → Nat) (L : List Nat) (Fo : Nat → va_E) (ho : okT G ttC tag L Fo) (p0 : Nat) (p1 : Int32) (p2 : Int32) (m0 : p0 ∈ L) (g0 : tag p0 = 46) (pf0 : fld Fo p0 3 = .null) : TMi l yX13_breaks cX13_breaks 3 (some .int) { frames := 3, cells := 0, slots := 0, locals := 75 } G ttC tag L Fo [.ref p0, .int p1, .int p2] (fun r F1 => ((-2147483648) ≤ r.toInt ∧ r.toInt ≤ 2147483647) ∧ ((∀ b j : Nat, (tag b ≠ 46 ∨ j ≠ 0) → (tag b ≠ 46 ∨ j ≠ 1) → (tag b ≠ 46 ∨ j ≠ 2) → fld F1 b j = fld Fo b j) ∧ (∀ b j : Nat, tag b ≠ 42 → elm F1 b j = elm Fo b j))) := by
  refine t_bodyi (y := yX13_breaks) (cd := cX13_breaks) (mL := 3) (rt := (some .int)) (rm := { frames := 3, cells := 0, slots := 0, locals := 75 }) (av := [.ref p0, .int p1, .int p2]) (by decide) (Nat.le_of_ble_eq_true rfl) ho ?_
  intro p e s m args below meth c ls A Q hQ X hT hl
  have hx := X.1.1
  have hb := X.1.2.1
  have hl : lv_has ls 3 [(0, .ref p0), (1, .int p1), (2, .int p2)] := hl
  have rp1 := rg_all p1
  have rp2 := rg_all p2
  obtain ⟨F, hFo⟩ : ∃ F : Nat → va_E, F = Fo := ⟨_, rfl⟩
  rw [← hFo] at hT pf0
  have hfr : (∀ b j : Nat, (tag b ≠ 46 ∨ j ≠ 0) → (tag b ≠ 46 ∨ j ≠ 1) → (tag b ≠ 46 ∨ j ≠ 2) → fld F b j = fld Fo b j) ∧ (∀ b j : Nat, tag b ≠ 42 → elm F b j = elm Fo b j) := by
    rw [hFo]
    exact ⟨by intros; rfl, by intros; rfl⟩
  refine lv_aload_n hx hb dX13_breaks_0 rfl (lv_at hl 0 rfl) ?_
  refine lv_iconst (v := 0) hx hb dX13_breaks_1 (by decide) ?_
  refine t_put (C := RX13) (T := TX13) (N := 37) (v := .int 0) X hT m0 g0 rfl tyX13 tyX13_ok nmX13 rfl 0 (by decide) qw_140 inlX13 rfl (by first | rfl | decide) (by first | rfl | decide) rfl (⟨_, rfl, (show (-2147483648) ≤ (0 : Int32).toInt from (by decide)), (show (0 : Int32).toInt ≤ 2147483647 from (by decide))⟩) dX13_breaks_2 (fun F H locs hT v47804 h1v47804 h2v47804 => ?_)
  have pf0 := (h1v47804 _ _ (Or.inr (by decide))).trans pf0
  have hfr : (∀ b j : Nat, (tag b ≠ 46 ∨ j ≠ 0) → (tag b ≠ 46 ∨ j ≠ 1) → (tag b ≠ 46 ∨ j ≠ 2) → fld F b j = fld Fo b j) ∧ (∀ b j : Nat, tag b ≠ 42 → elm F b j = elm Fo b j) := ⟨fun b j n46_0 n46_1 n46_2 => (h1v47804 b j (fr_ne g0 n46_0)).trans (hfr.1 b j n46_0 n46_1 n46_2), fun b j a42 => (h2v47804 b j).trans (hfr.2 b j a42)⟩
  refine lv_aload_n hx hb dX13_breaks_5 rfl (lv_at hl 0 rfl) ?_
  refine lv_iload_n hx hb dX13_breaks_6 rfl (lv_at hl 1 rfl) ?_
  refine lv_iload_n hx hb dX13_breaks_7 rfl (lv_at hl 2 rfl) ?_
  refine t_cVi (n := 2) (C := RX13) (T := TX13) (N := 37) (As := [.int p1, .int p2]) (rest := []) X hT (km127_X13_isDepth l G tag L F hT.2.2.2 p0 p1 p2 m0 g0 pf0) m0 g0 rfl rfl qw_865 qw_866 qw_867 qw_5 qw_868 ⟨rfl, by decide +kernel, by decide +kernel, by decide +kernel⟩ ⟨Nat.le_of_ble_eq_true rfl, Nat.le_of_ble_eq_true rfl⟩ hl rfl rfl (Nat.le_of_ble_eq_true rfl) dX13_breaks_8 ⟨Nat.le_of_ble_eq_true rfl, Nat.le_of_ble_eq_true rfl⟩ (fun z47805 F9 H locs hT hz47805 => ?_)
  obtain ⟨fz47805, hz47805⟩ := hz47805
  rw [fz47805] at hT
  refine lv_if_eq (tgt := 30) hx hb dX13_breaks_11 (by decide) (fun c47806 => ?_) (fun c47806 => ?_)
  · have w47807 := cv_eq (rfl : z47805.toInt = z47805.toInt) (by decide : (0 : Int32).toInt = 0) c47806
    refine lv_aload_n hx hb dX13_breaks_30 rfl (lv_at hl 0 rfl) ?_
    refine lv_iconst (v := 1) hx hb dX13_breaks_31 (by decide) ?_
    refine t_cVi (n := 1) (C := RX13) (T := TX13) (N := 37) (As := [.int 1]) (rest := []) X hT (km88_X13_refused l G tag L F hT.2.2.2 p0 1 m0 g0) m0 g0 rfl rfl qw_484 qw_485 qw_486 qw_5 qw_487 ⟨rfl, by decide +kernel, by decide +kernel, by decide +kernel⟩ ⟨Nat.le_of_ble_eq_true rfl, Nat.le_of_ble_eq_true rfl⟩ hl rfl rfl (Nat.le_of_ble_eq_true rfl) dX13_breaks_32 ⟨Nat.le_of_ble_eq_true rfl, Nat.le_of_ble_eq_true rfl⟩ (fun z47808 F H locs hT hz47808 => ?_)
    obtain ⟨hz47808, yz47808⟩ := hz47808
    have pf0 := (yz47808.1 _ 3 (Or.inr (by decide)) (Or.inr (by decide))).trans pf0
    have v47804 := (yz47808.1 _ 0 (Or.inr (by decide)) (Or.inr (by decide))).trans v47804
    have hfr : (∀ b j : Nat, (tag b ≠ 46 ∨ j ≠ 0) → (tag b ≠ 46 ∨ j ≠ 1) → (tag b ≠ 46 ∨ j ≠ 2) → fld F b j = fld Fo b j) ∧ (∀ b j : Nat, tag b ≠ 42 → elm F b j = elm Fo b j) := ⟨fun b j n46_0 n46_1 n46_2 => (yz47808.1 b j n46_1 n46_2).trans (hfr.1 b j n46_0 n46_1 n46_2), fun b j a42 => (yz47808.2 b j ).trans (hfr.2 b j a42)⟩
    exact t_iret hQ X hT (⟨rg_all _, hfr⟩) (Nat.le_of_ble_eq_true rfl) (Nat.le_of_ble_eq_true rfl) dX13_breaks_35
  · have w47809 := cv_ne (rfl : z47805.toInt = z47805.toInt) (by decide : (0 : Int32).toInt = 0) c47806
    exfalso
    omega
theorem kp_X13_breaks (l : Launch) (G : KG) (tag : Nat → Nat) (L : List Nat) (Fo : Nat → va_E) (ho : okT G ttC tag L Fo) (p0 : Nat) (p1 : Int32) (p2 : Int32) (m0 : p0 ∈ L) (g0 : tag p0 = 46) : TMi l yX13_breaks cX13_breaks 3 (some .int) { frames := 3, cells := 0, slots := 0, locals := 75 } G ttC tag L Fo [.ref p0, .int p1, .int p2] (fun r F1 => ((-2147483648) ≤ r.toInt ∧ r.toInt ≤ 2147483647) ∧ ((∀ b j : Nat, (tag b ≠ 46 ∨ j ≠ 0) → (tag b ≠ 46 ∨ j ≠ 1) → (tag b ≠ 46 ∨ j ≠ 2) → fld F1 b j = fld Fo b j) ∧ (∀ b j : Nat, tag b ≠ 42 → elm F1 b j = elm Fo b j))) := by
  rcases t_fldn ho m0 g0 rfl 3 rfl with h9 | ⟨b9, h9, m9, t9⟩
  · exact km169_X13_breaks l G tag L Fo ho p0 p1 p2  m0 g0 h9 
  · exact km168_X13_breaks l G tag L Fo ho p0 p1 p2 b9  m0 g0 m9 (tg_of t9) h9 
set_option maxHeartbeats 4000000 in
set_option maxRecDepth 100000 in
theorem km171_X13_round (l : Launch) (G : KG) (tag : Nat → Nat) (L : List Nat) (Fo : Nat → va_E) (ho : okT G ttC tag L Fo) (p0 : Nat) (p1 : Int32) (p2 : Int32) (x0 : Nat) (m0 : p0 ∈ L) (g0 : tag p0 = 46) (mx0 : x0 ∈ L) (gx0 : tag x0 = 45) (pf0 : fld Fo p0 3 = .ref x0) : TMi l yX13_round cX13_round 3 (some .int) { frames := 3, cells := 0, slots := 0, locals := 66 } G ttC tag L Fo [.ref p0, .int p1, .int p2] (fun r F1 => ((-2147483648) ≤ r.toInt ∧ r.toInt ≤ 2147483647) ∧ ((∀ b j : Nat, (tag b ≠ 46 ∨ j ≠ 0) → (tag b ≠ 46 ∨ j ≠ 1) → (tag b ≠ 46 ∨ j ≠ 2) → fld F1 b j = fld Fo b j) ∧ (∀ b j : Nat, elm F1 b j = elm Fo b j))) := by
  refine t_bodyi (y := yX13_round) (cd := cX13_round) (mL := 3) (rt := (some .int)) (rm := { frames := 3, cells := 0, slots := 0, locals := 66 }) (av := [.ref p0, .int p1, .int p2]) (by decide) (Nat.le_of_ble_eq_true rfl) ho ?_
  intro p e s m args below meth c ls A Q hQ X hT hl
  have hx := X.1.1
  have hb := X.1.2.1
  have hl : lv_has ls 3 [(0, .ref p0), (1, .int p1), (2, .int p2)] := hl
  have rp1 := rg_all p1
  have rp2 := rg_all p2
  obtain ⟨F, hFo⟩ : ∃ F : Nat → va_E, F = Fo := ⟨_, rfl⟩
  rw [← hFo] at hT pf0
  have hfr : (∀ b j : Nat, (tag b ≠ 46 ∨ j ≠ 0) → (tag b ≠ 46 ∨ j ≠ 1) → (tag b ≠ 46 ∨ j ≠ 2) → fld F b j = fld Fo b j) ∧ (∀ b j : Nat, elm F b j = elm Fo b j) := by
    rw [hFo]
    exact ⟨by intros; rfl, by intros; rfl⟩
  refine lv_aload_n hx hb dX13_round_0 rfl (lv_at hl 0 rfl) ?_
  refine lv_iconst (v := 0) hx hb dX13_round_1 (by decide) ?_
  refine t_put (C := RX13) (T := TX13) (N := 37) (v := .int 0) X hT m0 g0 rfl tyX13 tyX13_ok nmX13 rfl 0 (by decide) qw_140 inlX13 rfl (by first | rfl | decide) (by first | rfl | decide) rfl (⟨_, rfl, (show (-2147483648) ≤ (0 : Int32).toInt from (by decide)), (show (0 : Int32).toInt ≤ 2147483647 from (by decide))⟩) dX13_round_2 (fun F H locs hT v47986 h1v47986 h2v47986 => ?_)
  have pf0 := (h1v47986 _ _ (Or.inr (by decide))).trans pf0
  have hfr : (∀ b j : Nat, (tag b ≠ 46 ∨ j ≠ 0) → (tag b ≠ 46 ∨ j ≠ 1) → (tag b ≠ 46 ∨ j ≠ 2) → fld F b j = fld Fo b j) ∧ (∀ b j : Nat, elm F b j = elm Fo b j) := ⟨fun b j n46_0 n46_1 n46_2 => (h1v47986 b j (fr_ne g0 n46_0)).trans (hfr.1 b j n46_0 n46_1 n46_2), fun b j  => (h2v47986 b j).trans (hfr.2 b j )⟩
  refine lv_aload_n hx hb dX13_round_5 rfl (lv_at hl 0 rfl) ?_
  refine lv_iload_n hx hb dX13_round_6 rfl (lv_at hl 1 rfl) ?_
  refine lv_iload_n hx hb dX13_round_7 rfl (lv_at hl 2 rfl) ?_
  refine t_cVi (n := 2) (C := RX13) (T := TX13) (N := 37) (As := [.int p1, .int p2]) (rest := []) X hT (km119_X13_isSkin l G tag L F hT.2.2.2 p0 p1 p2 x0 m0 g0 mx0 gx0 pf0) m0 g0 rfl rfl qw_836 qw_837 qw_838 qw_5 qw_839 ⟨rfl, by decide +kernel, by decide +kernel, by decide +kernel⟩ ⟨Nat.le_of_ble_eq_true rfl, Nat.le_of_ble_eq_true rfl⟩ hl rfl rfl (Nat.le_of_ble_eq_true rfl) dX13_round_8 ⟨Nat.le_of_ble_eq_true rfl, Nat.le_of_ble_eq_true rfl⟩ (fun z47987 F9 H locs hT hz47987 => ?_)
  obtain ⟨fz47987, hz47987⟩ := hz47987
  rw [fz47987] at hT
  obtain ⟨hz47987, iz47987⟩ := hz47987
  refine lv_if_eq (tgt := 35) hx hb dX13_round_11 (by decide) (fun c47988 => ?_) (fun c47988 => ?_)
  · have w47989 := cv_eq (rfl : z47987.toInt = z47987.toInt) (by decide : (0 : Int32).toInt = 0) c47988
    refine lv_aload_n hx hb dX13_round_35 rfl (lv_at hl 0 rfl) ?_
    refine lv_iconst (v := 1) hx hb dX13_round_36 (by decide) ?_
    refine t_cVi (n := 1) (C := RX13) (T := TX13) (N := 37) (As := [.int 1]) (rest := []) X hT (km88_X13_refused l G tag L F hT.2.2.2 p0 1 m0 g0) m0 g0 rfl rfl qw_484 qw_485 qw_486 qw_5 qw_487 ⟨rfl, by decide +kernel, by decide +kernel, by decide +kernel⟩ ⟨Nat.le_of_ble_eq_true rfl, Nat.le_of_ble_eq_true rfl⟩ hl rfl rfl (Nat.le_of_ble_eq_true rfl) dX13_round_37 ⟨Nat.le_of_ble_eq_true rfl, Nat.le_of_ble_eq_true rfl⟩ (fun z47990 F H locs hT hz47990 => ?_)
    obtain ⟨hz47990, yz47990⟩ := hz47990
    have pf0 := (yz47990.1 _ 3 (Or.inr (by decide)) (Or.inr (by decide))).trans pf0
    have v47986 := (yz47990.1 _ 0 (Or.inr (by decide)) (Or.inr (by decide))).trans v47986
    have hfr : (∀ b j : Nat, (tag b ≠ 46 ∨ j ≠ 0) → (tag b ≠ 46 ∨ j ≠ 1) → (tag b ≠ 46 ∨ j ≠ 2) → fld F b j = fld Fo b j) ∧ (∀ b j : Nat, elm F b j = elm Fo b j) := ⟨fun b j n46_0 n46_1 n46_2 => (yz47990.1 b j n46_1 n46_2).trans (hfr.1 b j n46_0 n46_1 n46_2), fun b j  => (yz47990.2 b j ).trans (hfr.2 b j )⟩
    exact t_iret hQ X hT (⟨rg_all _, hfr⟩) (Nat.le_of_ble_eq_true rfl) (Nat.le_of_ble_eq_true rfl) dX13_round_40
  · have w47991 := cv_ne (rfl : z47987.toInt = z47987.toInt) (by decide : (0 : Int32).toInt = 0) c47988
    have w47992 := (fun h => (iz47987 h).1) (by omega)
    have w47993 := (fun h => (iz47987 h).2) (by omega)
    refine lv_iload_n hx hb dX13_round_14 rfl (lv_at hl 2 rfl) ?_
    refine lv_iconst (v := 1) hx hb dX13_round_15 (by decide) ?_
    refine lv_icmp_le (tgt := 35) hx hb dX13_round_16 (by decide) (fun c47994 => ?_) (fun c47994 => ?_)
    · have w47995 := cv_le (rfl : p2.toInt = p2.toInt) (by decide : (1 : Int32).toInt = 1) c47994
      refine lv_aload_n hx hb dX13_round_35 rfl (lv_at hl 0 rfl) ?_
      refine lv_iconst (v := 1) hx hb dX13_round_36 (by decide) ?_
      refine t_cVi (n := 1) (C := RX13) (T := TX13) (N := 37) (As := [.int 1]) (rest := []) X hT (km88_X13_refused l G tag L F hT.2.2.2 p0 1 m0 g0) m0 g0 rfl rfl qw_484 qw_485 qw_486 qw_5 qw_487 ⟨rfl, by decide +kernel, by decide +kernel, by decide +kernel⟩ ⟨Nat.le_of_ble_eq_true rfl, Nat.le_of_ble_eq_true rfl⟩ hl rfl rfl (Nat.le_of_ble_eq_true rfl) dX13_round_37 ⟨Nat.le_of_ble_eq_true rfl, Nat.le_of_ble_eq_true rfl⟩ (fun z47996 F H locs hT hz47996 => ?_)
      obtain ⟨hz47996, yz47996⟩ := hz47996
      have pf0 := (yz47996.1 _ 3 (Or.inr (by decide)) (Or.inr (by decide))).trans pf0
      have v47986 := (yz47996.1 _ 0 (Or.inr (by decide)) (Or.inr (by decide))).trans v47986
      have hfr : (∀ b j : Nat, (tag b ≠ 46 ∨ j ≠ 0) → (tag b ≠ 46 ∨ j ≠ 1) → (tag b ≠ 46 ∨ j ≠ 2) → fld F b j = fld Fo b j) ∧ (∀ b j : Nat, elm F b j = elm Fo b j) := ⟨fun b j n46_0 n46_1 n46_2 => (yz47996.1 b j n46_1 n46_2).trans (hfr.1 b j n46_0 n46_1 n46_2), fun b j  => (yz47996.2 b j ).trans (hfr.2 b j )⟩
      exact t_iret hQ X hT (⟨rg_all _, hfr⟩) (Nat.le_of_ble_eq_true rfl) (Nat.le_of_ble_eq_true rfl) dX13_round_40
    · have w47997 := cv_nle (rfl : p2.toInt = p2.toInt) (by decide : (1 : Int32).toInt = 1) c47994
      refine lv_aload_n hx hb dX13_round_19 rfl (lv_at hl 0 rfl) ?_
      refine lv_aload_n hx hb dX13_round_20 rfl (lv_at hl 0 rfl) ?_
      refine t_get (C := RX13) (T := TX13) (N := 37) X hT m0 g0 rfl rfl 16 (by decide) qw_112 inlX13 rfl dX13_round_21 (fun v47998 hv47998 ov47998 => ?_)
      obtain ⟨b47999, rfl, mb47999, gb47999⟩ := okV_r ov47998
      have gb47999 : tag b47999 = 37 := tg_of gb47999
      refine lv_iload_n hx hb dX13_round_24 rfl (lv_at hl 1 rfl) ?_
      refine lv_iload_n hx hb dX13_round_25 rfl (lv_at hl 2 rfl) ?_
      refine t_cSi (n := 3) (As := [.ref b47999, .int p1, .int p2]) (rest := [.ref p0]) X hT (km155_X13_roundIn l G tag L F hT.2.2.2 b47999 p1 p2 mb47999 gb47999 (by omega) (by omega)) qw_1005 qw_1006 qw_5 qw_1007 ⟨by decide +kernel, by decide +kernel, by decide +kernel⟩ ⟨Nat.le_of_ble_eq_true rfl, Nat.le_of_ble_eq_true rfl⟩ hl rfl rfl (Nat.le_of_ble_eq_true rfl) dX13_round_26 ⟨Nat.le_of_ble_eq_true rfl, Nat.le_of_ble_eq_true rfl⟩ (fun z48000 F9 H locs hT hz48000 => ?_)
      obtain ⟨fz48000, hz48000⟩ := hz48000
      rw [fz48000] at hT
      refine t_cVi (n := 1) (C := RX13) (T := TX13) (N := 37) (As := [.int z48000]) (rest := []) X hT (km93_X13_good l G tag L F hT.2.2.2 p0 z48000 m0 g0) m0 g0 rfl rfl qw_687 qw_688 qw_689 qw_5 qw_690 ⟨rfl, by decide +kernel, by decide +kernel, by decide +kernel⟩ ⟨Nat.le_of_ble_eq_true rfl, Nat.le_of_ble_eq_true rfl⟩ hl rfl rfl (Nat.le_of_ble_eq_true rfl) dX13_round_29 ⟨Nat.le_of_ble_eq_true rfl, Nat.le_of_ble_eq_true rfl⟩ (fun z48001 F H locs hT hz48001 => ?_)
      obtain ⟨hz48001, yz48001⟩ := hz48001
      have pf0 := (yz48001.1 _ 3 (Or.inr (by decide)) (Or.inr (by decide))).trans pf0
      have v47986 := (yz48001.1 _ 0 (Or.inr (by decide)) (Or.inr (by decide))).trans v47986
      have hv47998 := (yz48001.1 _ 16 (Or.inr (by decide)) (Or.inr (by decide))).trans hv47998
      have hfr : (∀ b j : Nat, (tag b ≠ 46 ∨ j ≠ 0) → (tag b ≠ 46 ∨ j ≠ 1) → (tag b ≠ 46 ∨ j ≠ 2) → fld F b j = fld Fo b j) ∧ (∀ b j : Nat, elm F b j = elm Fo b j) := ⟨fun b j n46_0 n46_1 n46_2 => (yz48001.1 b j n46_1 n46_2).trans (hfr.1 b j n46_0 n46_1 n46_2), fun b j  => (yz48001.2 b j ).trans (hfr.2 b j )⟩
      refine lv_goto (tgt := 40) hx hb dX13_round_32 (by decide) ?_
      exact t_iret hQ X hT (⟨rg_all _, hfr⟩) (Nat.le_of_ble_eq_true rfl) (Nat.le_of_ble_eq_true rfl) dX13_round_40
set_option maxHeartbeats 4000000 in
set_option maxRecDepth 100000 in
theorem km172_X13_round (l : Launch) (G : KG) (tag : Nat → Nat) (L : List Nat) (Fo : Nat → va_E) (ho : okT G ttC tag L Fo) (p0 : Nat) (p1 : Int32) (p2 : Int32) (m0 : p0 ∈ L) (g0 : tag p0 = 46) (pf0 : fld Fo p0 3 = .null) : TMi l yX13_round cX13_round 3 (some .int) { frames := 3, cells := 0, slots := 0, locals := 66 } G ttC tag L Fo [.ref p0, .int p1, .int p2] (fun r F1 => ((-2147483648) ≤ r.toInt ∧ r.toInt ≤ 2147483647) ∧ ((∀ b j : Nat, (tag b ≠ 46 ∨ j ≠ 0) → (tag b ≠ 46 ∨ j ≠ 1) → (tag b ≠ 46 ∨ j ≠ 2) → fld F1 b j = fld Fo b j) ∧ (∀ b j : Nat, elm F1 b j = elm Fo b j))) := by
  refine t_bodyi (y := yX13_round) (cd := cX13_round) (mL := 3) (rt := (some .int)) (rm := { frames := 3, cells := 0, slots := 0, locals := 66 }) (av := [.ref p0, .int p1, .int p2]) (by decide) (Nat.le_of_ble_eq_true rfl) ho ?_
  intro p e s m args below meth c ls A Q hQ X hT hl
  have hx := X.1.1
  have hb := X.1.2.1
  have hl : lv_has ls 3 [(0, .ref p0), (1, .int p1), (2, .int p2)] := hl
  have rp1 := rg_all p1
  have rp2 := rg_all p2
  obtain ⟨F, hFo⟩ : ∃ F : Nat → va_E, F = Fo := ⟨_, rfl⟩
  rw [← hFo] at hT pf0
  have hfr : (∀ b j : Nat, (tag b ≠ 46 ∨ j ≠ 0) → (tag b ≠ 46 ∨ j ≠ 1) → (tag b ≠ 46 ∨ j ≠ 2) → fld F b j = fld Fo b j) ∧ (∀ b j : Nat, elm F b j = elm Fo b j) := by
    rw [hFo]
    exact ⟨by intros; rfl, by intros; rfl⟩
  refine lv_aload_n hx hb dX13_round_0 rfl (lv_at hl 0 rfl) ?_
  refine lv_iconst (v := 0) hx hb dX13_round_1 (by decide) ?_
  refine t_put (C := RX13) (T := TX13) (N := 37) (v := .int 0) X hT m0 g0 rfl tyX13 tyX13_ok nmX13 rfl 0 (by decide) qw_140 inlX13 rfl (by first | rfl | decide) (by first | rfl | decide) rfl (⟨_, rfl, (show (-2147483648) ≤ (0 : Int32).toInt from (by decide)), (show (0 : Int32).toInt ≤ 2147483647 from (by decide))⟩) dX13_round_2 (fun F H locs hT v48068 h1v48068 h2v48068 => ?_)
  have pf0 := (h1v48068 _ _ (Or.inr (by decide))).trans pf0
  have hfr : (∀ b j : Nat, (tag b ≠ 46 ∨ j ≠ 0) → (tag b ≠ 46 ∨ j ≠ 1) → (tag b ≠ 46 ∨ j ≠ 2) → fld F b j = fld Fo b j) ∧ (∀ b j : Nat, elm F b j = elm Fo b j) := ⟨fun b j n46_0 n46_1 n46_2 => (h1v48068 b j (fr_ne g0 n46_0)).trans (hfr.1 b j n46_0 n46_1 n46_2), fun b j  => (h2v48068 b j).trans (hfr.2 b j )⟩
  refine lv_aload_n hx hb dX13_round_5 rfl (lv_at hl 0 rfl) ?_
  refine lv_iload_n hx hb dX13_round_6 rfl (lv_at hl 1 rfl) ?_
  refine lv_iload_n hx hb dX13_round_7 rfl (lv_at hl 2 rfl) ?_
  refine t_cVi (n := 2) (C := RX13) (T := TX13) (N := 37) (As := [.int p1, .int p2]) (rest := []) X hT (km121_X13_isSkin l G tag L F hT.2.2.2 p0 p1 p2 m0 g0 pf0) m0 g0 rfl rfl qw_836 qw_837 qw_838 qw_5 qw_839 ⟨rfl, by decide +kernel, by decide +kernel, by decide +kernel⟩ ⟨Nat.le_of_ble_eq_true rfl, Nat.le_of_ble_eq_true rfl⟩ hl rfl rfl (Nat.le_of_ble_eq_true rfl) dX13_round_8 ⟨Nat.le_of_ble_eq_true rfl, Nat.le_of_ble_eq_true rfl⟩ (fun z48069 F9 H locs hT hz48069 => ?_)
  obtain ⟨fz48069, hz48069⟩ := hz48069
  rw [fz48069] at hT
  refine lv_if_eq (tgt := 35) hx hb dX13_round_11 (by decide) (fun c48070 => ?_) (fun c48070 => ?_)
  · have w48071 := cv_eq (rfl : z48069.toInt = z48069.toInt) (by decide : (0 : Int32).toInt = 0) c48070
    refine lv_aload_n hx hb dX13_round_35 rfl (lv_at hl 0 rfl) ?_
    refine lv_iconst (v := 1) hx hb dX13_round_36 (by decide) ?_
    refine t_cVi (n := 1) (C := RX13) (T := TX13) (N := 37) (As := [.int 1]) (rest := []) X hT (km88_X13_refused l G tag L F hT.2.2.2 p0 1 m0 g0) m0 g0 rfl rfl qw_484 qw_485 qw_486 qw_5 qw_487 ⟨rfl, by decide +kernel, by decide +kernel, by decide +kernel⟩ ⟨Nat.le_of_ble_eq_true rfl, Nat.le_of_ble_eq_true rfl⟩ hl rfl rfl (Nat.le_of_ble_eq_true rfl) dX13_round_37 ⟨Nat.le_of_ble_eq_true rfl, Nat.le_of_ble_eq_true rfl⟩ (fun z48072 F H locs hT hz48072 => ?_)
    obtain ⟨hz48072, yz48072⟩ := hz48072
    have pf0 := (yz48072.1 _ 3 (Or.inr (by decide)) (Or.inr (by decide))).trans pf0
    have v48068 := (yz48072.1 _ 0 (Or.inr (by decide)) (Or.inr (by decide))).trans v48068
    have hfr : (∀ b j : Nat, (tag b ≠ 46 ∨ j ≠ 0) → (tag b ≠ 46 ∨ j ≠ 1) → (tag b ≠ 46 ∨ j ≠ 2) → fld F b j = fld Fo b j) ∧ (∀ b j : Nat, elm F b j = elm Fo b j) := ⟨fun b j n46_0 n46_1 n46_2 => (yz48072.1 b j n46_1 n46_2).trans (hfr.1 b j n46_0 n46_1 n46_2), fun b j  => (yz48072.2 b j ).trans (hfr.2 b j )⟩
    exact t_iret hQ X hT (⟨rg_all _, hfr⟩) (Nat.le_of_ble_eq_true rfl) (Nat.le_of_ble_eq_true rfl) dX13_round_40
  · have w48073 := cv_ne (rfl : z48069.toInt = z48069.toInt) (by decide : (0 : Int32).toInt = 0) c48070
    exfalso
    omega
theorem kp_X13_round (l : Launch) (G : KG) (tag : Nat → Nat) (L : List Nat) (Fo : Nat → va_E) (ho : okT G ttC tag L Fo) (p0 : Nat) (p1 : Int32) (p2 : Int32) (m0 : p0 ∈ L) (g0 : tag p0 = 46) : TMi l yX13_round cX13_round 3 (some .int) { frames := 3, cells := 0, slots := 0, locals := 66 } G ttC tag L Fo [.ref p0, .int p1, .int p2] (fun r F1 => ((-2147483648) ≤ r.toInt ∧ r.toInt ≤ 2147483647) ∧ ((∀ b j : Nat, (tag b ≠ 46 ∨ j ≠ 0) → (tag b ≠ 46 ∨ j ≠ 1) → (tag b ≠ 46 ∨ j ≠ 2) → fld F1 b j = fld Fo b j) ∧ (∀ b j : Nat, elm F1 b j = elm Fo b j))) := by
  rcases t_fldn ho m0 g0 rfl 3 rfl with h9 | ⟨b9, h9, m9, t9⟩
  · exact km172_X13_round l G tag L Fo ho p0 p1 p2  m0 g0 h9 
  · exact km171_X13_round l G tag L Fo ho p0 p1 p2 b9  m0 g0 m9 (tg_of t9) h9 
set_option maxHeartbeats 4000000 in
set_option maxRecDepth 100000 in
theorem km174_X13_refusesIn (l : Launch) (G : KG) (tag : Nat → Nat) (L : List Nat) (F : Nat → va_E) (ho : okT G ttC tag L F) (p0 : Nat) (p1 : Int32) (p2 : Int32) (p3 : Int32) (x0 : Nat) (m0 : p0 ∈ L) (g0 : tag p0 = 46) (h1 : 0 ≤ p1.toInt ∧ p1.toInt ≤ 0) (mx0 : x0 ∈ L) (gx0 : tag x0 = 45) (pf0 : fld F p0 3 = .ref x0) : TMi l yX13_refusesIn cX13_refusesIn 4 (some .int) { frames := 0, cells := 0, slots := 0, locals := 0 } G ttC tag L F [.ref p0, .int p1, .int p2, .int p3] (fun r F1 => F1 = F ∧ (1 ≤ r.toInt ∧ r.toInt ≤ 1) ∧ (r.toInt = 0 → 0 ≤ p2.toInt ∧ p2.toInt ≤ p3.toInt)) := by
  refine t_bodyi (y := yX13_refusesIn) (cd := cX13_refusesIn) (mL := 4) (rt := (some .int)) (rm := { frames := 0, cells := 0, slots := 0, locals := 0 }) (av := [.ref p0, .int p1, .int p2, .int p3]) (by decide) (Nat.le_of_ble_eq_true rfl) ho ?_
  intro p e s m args below meth c ls A Q hQ X hT hl
  have hx := X.1.1
  have hb := X.1.2.1
  have hl : lv_has ls 4 [(0, .ref p0), (1, .int p1), (2, .int p2), (3, .int p3)] := hl
  have rp2 := rg_all p2
  have rp3 := rg_all p3
  refine lv_aload_n hx hb dX13_refusesIn_0 rfl (lv_at hl 0 rfl) ?_
  refine t_get (C := RX13) (T := TX13) (N := 37) X hT m0 g0 rfl rfl 3 (by decide) qw_481 inlX13 rfl dX13_refusesIn_1 (fun v48122 hv48122 ov48122 => ?_)
  obtain rfl : v48122 = .ref x0 := hv48122.symm.trans pf0
  refine lv_ifnull hx hb dX13_refusesIn_4 ?_
  refine lv_iload_n hx hb dX13_refusesIn_7 rfl (lv_at hl 1 rfl) ?_
  refine lv_if_ne (tgt := 15) hx hb dX13_refusesIn_8 (by decide) (fun c48123 => ?_) (fun c48123 => ?_)
  · have w48124 := cv_ne (rfl : p1.toInt = p1.toInt) (by decide : (0 : Int32).toInt = 0) c48123
    exfalso
    omega
  · have w48125 := cv_eq (rfl : p1.toInt = p1.toInt) (by decide : (0 : Int32).toInt = 0) c48123
    refine lv_iconst (v := 1) hx hb dX13_refusesIn_11 (by decide) ?_
    refine lv_goto (tgt := 29) hx hb dX13_refusesIn_12 (by decide) ?_
    have k48126 : (1 : Int32).toInt = 1 := by decide
    exact t_iret hQ X hT (⟨rfl, (by decide), (by omega)⟩) (Nat.le_of_ble_eq_true rfl) (Nat.le_of_ble_eq_true rfl) dX13_refusesIn_29
set_option maxHeartbeats 4000000 in
set_option maxRecDepth 100000 in
theorem km175_X13_refusesIn (l : Launch) (G : KG) (tag : Nat → Nat) (L : List Nat) (F : Nat → va_E) (ho : okT G ttC tag L F) (p0 : Nat) (p1 : Int32) (p2 : Int32) (p3 : Int32) (x0 : Nat) (m0 : p0 ∈ L) (g0 : tag p0 = 46) (h1 : 1 ≤ p1.toInt ∧ p1.toInt ≤ 1) (mx0 : x0 ∈ L) (gx0 : tag x0 = 45) (pf0 : fld F p0 3 = .ref x0) : TMi l yX13_refusesIn cX13_refusesIn 4 (some .int) { frames := 1, cells := 0, slots := 0, locals := 22 } G ttC tag L F [.ref p0, .int p1, .int p2, .int p3] (fun r F1 => F1 = F ∧ (0 ≤ r.toInt ∧ r.toInt ≤ 2) ∧ (r.toInt = 0 → 0 ≤ p2.toInt ∧ p2.toInt ≤ p3.toInt)) := by
  refine t_bodyi (y := yX13_refusesIn) (cd := cX13_refusesIn) (mL := 4) (rt := (some .int)) (rm := { frames := 1, cells := 0, slots := 0, locals := 22 }) (av := [.ref p0, .int p1, .int p2, .int p3]) (by decide) (Nat.le_of_ble_eq_true rfl) ho ?_
  intro p e s m args below meth c ls A Q hQ X hT hl
  have hx := X.1.1
  have hb := X.1.2.1
  have hl : lv_has ls 4 [(0, .ref p0), (1, .int p1), (2, .int p2), (3, .int p3)] := hl
  have rp2 := rg_all p2
  have rp3 := rg_all p3
  refine lv_aload_n hx hb dX13_refusesIn_0 rfl (lv_at hl 0 rfl) ?_
  refine t_get (C := RX13) (T := TX13) (N := 37) X hT m0 g0 rfl rfl 3 (by decide) qw_481 inlX13 rfl dX13_refusesIn_1 (fun v48260 hv48260 ov48260 => ?_)
  obtain rfl : v48260 = .ref x0 := hv48260.symm.trans pf0
  refine lv_ifnull hx hb dX13_refusesIn_4 ?_
  refine lv_iload_n hx hb dX13_refusesIn_7 rfl (lv_at hl 1 rfl) ?_
  refine lv_if_ne (tgt := 15) hx hb dX13_refusesIn_8 (by decide) (fun c48261 => ?_) (fun c48261 => ?_)
  · have w48262 := cv_ne (rfl : p1.toInt = p1.toInt) (by decide : (0 : Int32).toInt = 0) c48261
    refine lv_iload_n hx hb dX13_refusesIn_15 rfl (lv_at hl 2 rfl) ?_
    refine lv_iconst (v := 0) hx hb dX13_refusesIn_16 (by decide) ?_
    refine lv_iload_n hx hb dX13_refusesIn_17 rfl (lv_at hl 3 rfl) ?_
    refine t_cSi (n := 3) (As := [.int p2, .int 0, .int p3]) (rest := []) X hT (km19_X13_within l G tag L F hT.2.2.2 p2 0 p3 ) qw_568 qw_569 qw_5 qw_570 ⟨by decide +kernel, by decide +kernel, by decide +kernel⟩ ⟨Nat.le_of_ble_eq_true rfl, Nat.le_of_ble_eq_true rfl⟩ hl rfl rfl (Nat.le_of_ble_eq_true rfl) dX13_refusesIn_18 ⟨Nat.le_of_ble_eq_true rfl, Nat.le_of_ble_eq_true rfl⟩ (fun z48263 F9 H locs hT hz48263 => ?_)
    obtain ⟨fz48263, hz48263, xz48263_0⟩ := hz48263
    rw [fz48263] at hT
    have k48264 : (0 : Int32).toInt = 0 := by decide
    refine lv_if_eq (tgt := 28) hx hb dX13_refusesIn_21 (by decide) (fun c48265 => ?_) (fun c48265 => ?_)
    · have w48266 := cv_eq (rfl : z48263.toInt = z48263.toInt) (by decide : (0 : Int32).toInt = 0) c48265
      refine lv_iconst (v := 2) hx hb dX13_refusesIn_28 (by decide) ?_
      have k48267 : (2 : Int32).toInt = 2 := by decide
      exact t_iret hQ X hT (⟨rfl, (by decide), (by omega)⟩) (Nat.le_of_ble_eq_true rfl) (Nat.le_of_ble_eq_true rfl) dX13_refusesIn_29
    · have w48268 := cv_ne (rfl : z48263.toInt = z48263.toInt) (by decide : (0 : Int32).toInt = 0) c48265
      have w48269 := xz48263_0 (by omega)
      refine lv_iconst (v := 0) hx hb dX13_refusesIn_24 (by decide) ?_
      refine lv_goto (tgt := 29) hx hb dX13_refusesIn_25 (by decide) ?_
      have k48270 : (0 : Int32).toInt = 0 := by decide
      exact t_iret hQ X hT (⟨rfl, (by decide), (by omega)⟩) (Nat.le_of_ble_eq_true rfl) (Nat.le_of_ble_eq_true rfl) dX13_refusesIn_29
  · have w48271 := cv_eq (rfl : p1.toInt = p1.toInt) (by decide : (0 : Int32).toInt = 0) c48261
    exfalso
    omega
set_option maxHeartbeats 4000000 in
set_option maxRecDepth 100000 in
theorem km176_X13_copies (l : Launch) (G : KG) (tag : Nat → Nat) (L : List Nat) (Fo : Nat → va_E) (ho : okT G ttC tag L Fo) (p0 : Nat) (m0 : p0 ∈ L) (g0 : tag p0 = 46) : TMv l yX13_copies cX13_copies 2 { frames := 0, cells := 0, slots := 0, locals := 0 } G ttC tag L Fo [.ref p0] (fun F1 => ((∀ b j : Nat, fld F1 b j = fld Fo b j) ∧ (∀ b j : Nat, tag b ≠ 37 → elm F1 b j = elm Fo b j))) := by
  refine t_bodyv (y := yX13_copies) (cd := cX13_copies) (mL := 2) (rm := { frames := 0, cells := 0, slots := 0, locals := 0 }) (av := [.ref p0]) (by decide) (Nat.le_of_ble_eq_true rfl) ho ?_
  intro p e s m args below meth c ls A Q hQ X hT hl
  have hx := X.1.1
  have hb := X.1.2.1
  have hl : lv_has ls 2 [(0, .ref p0)] := hl
  obtain ⟨F, hFo⟩ : ∃ F : Nat → va_E, F = Fo := ⟨_, rfl⟩
  rw [← hFo] at hT
  have hfr : (∀ b j : Nat, fld F b j = fld Fo b j) ∧ (∀ b j : Nat, tag b ≠ 37 → elm F b j = elm Fo b j) := by
    rw [hFo]
    exact ⟨by intros; rfl, by intros; rfl⟩
  have K2 : ∀ (n : Nat) (z48688 : Int32) (F : Nat → va_E) (H : Heap) (locs : List Loc) (ls : Array Slot), (212 - z48688.toInt < (n : Int)) → (0 ≤ z48688.toInt ∧ z48688.toInt ≤ 212) → TH G ttC A s tag L F H locs → ((∀ b j : Nat, fld F b j = fld Fo b j) ∧ (∀ b j : Nat, tag b ≠ 37 → elm F b j = elm Fo b j)) → lv_has ls 2 [(0, .ref p0), (1, .int z48688)] → W p l e { frames := 0, cells := 0, slots := 0, locals := 0 } s m args below meth c H locs 0 0 Q (F0 m 2 ls []) := by
    intro n
    induction n with
    | zero =>
      intro z48688 F H locs ls hn rz48688 hT hfr hl
      exfalso
      omega
    | succ n ih2 =>
      intro z48688 F H locs ls hn rz48688 hT hfr hl
      refine lv_iload_n hx hb dX13_copies_2 rfl (lv_at hl 1 rfl) ?_
      refine lv_sipush (v := 212) hx hb dX13_copies_3 (by decide) ?_
      refine lv_icmp_ge (tgt := 27) hx hb dX13_copies_6 (by decide) (fun c48689 => ?_) (fun c48689 => ?_)
      · have w48690 := cv_le (by decide : (212 : Int32).toInt = 212) (rfl : z48688.toInt = z48688.toInt) c48689
        exact t_vret hQ X hT hfr (Nat.le_of_ble_eq_true rfl) (Nat.le_of_ble_eq_true rfl) dX13_copies_27
      · have w48691 := cv_nle (by decide : (212 : Int32).toInt = 212) (rfl : z48688.toInt = z48688.toInt) c48689
        refine lv_aload_n hx hb dX13_copies_9 rfl (lv_at hl 0 rfl) ?_
        refine t_get (C := RX13) (T := TX13) (N := 37) X hT m0 g0 rfl rfl 17 (by decide) qw_113 inlX13 rfl dX13_copies_10 (fun v48692 hv48692 ov48692 => ?_)
        obtain ⟨b48693, rfl, mb48693, gb48693⟩ := okV_r ov48692
        have gb48693 : tag b48693 = 37 := tg_of gb48693
        refine lv_iload_n hx hb dX13_copies_13 rfl (lv_at hl 1 rfl) ?_
        refine lv_aload_n hx hb dX13_copies_14 rfl (lv_at hl 0 rfl) ?_
        refine t_get (C := RX13) (T := TX13) (N := 37) X hT m0 g0 rfl rfl 16 (by decide) qw_112 inlX13 rfl dX13_copies_15 (fun v48694 hv48694 ov48694 => ?_)
        obtain ⟨b48695, rfl, mb48695, gb48695⟩ := okV_r ov48694
        have gb48695 : tag b48695 = 37 := tg_of gb48695
        refine lv_iload_n hx hb dX13_copies_18 rfl (lv_at hl 1 rfl) ?_
        refine t_ild X hT mb48695 gb48695 rfl (by omega) dX13_copies_19 (fun z48696 vz48696 rz48696 => ?_)
        have oz48696 := rz48696
        have rz48696 := rg_all z48696
        refine t_ist X hT mb48693 gb48693 rfl (by omega) (oz48696) dX13_copies_20 (fun F H locs hT v48697 h1v48697 h2v48697 => ?_)
        have hv48692 := (h2v48697 _ _).trans hv48692
        have hv48694 := (h2v48697 _ _).trans hv48694
        have hfr : (∀ b j : Nat, fld F b j = fld Fo b j) ∧ (∀ b j : Nat, tag b ≠ 37 → elm F b j = elm Fo b j) := ⟨fun b j  => (h2v48697 b j).trans (hfr.1 b j ), fun b j a37 => (h1v48697 b j (Or.inl (at_ne gb48693 a37))).trans (hfr.2 b j a37)⟩
        obtain ⟨z48698, ez48698⟩ : ∃ y : Int32, y = z48688 + 1 := ⟨_, rfl⟩
        have hz48698 : z48698.toInt = z48688.toInt + 1 := ar_add ez48698 rfl (by decide : (1 : Int32).toInt = 1) (by omega) (by omega)
        refine lv_iinc (v := z48698) (lv' := [(1, .int z48698), (0, .ref p0)]) hx hb dX13_copies_21 hl (k := 1) rfl (by rw [ez48698]; rfl) (by decide) rfl (fun ls hl => ?_)
        refine lv_goto (tgt := 2) hx hb dX13_copies_24 (by decide) ?_
        exact ih2 z48698 _ _ _ _ (by omega) (by omega) hT hfr  (lv_sub hl [1, 0] rfl)
  refine lv_iconst (v := 0) hx hb dX13_copies_0 (by decide) ?_
  refine lv_istore_n (lv' := [(1, .int 0), (0, .ref p0)]) hx hb dX13_copies_1 rfl hl (by decide) rfl (fun ls hl => ?_)
  have k48699 : (0 : Int32).toInt = 0 := by decide
  exact K2 213 0 _ _ _ _ (by omega) (by decide) hT hfr  (lv_sub hl [1, 0] rfl)
set_option maxHeartbeats 4000000 in
set_option maxRecDepth 100000 in
theorem km177_X13_byNumbers (l : Launch) (G : KG) (tag : Nat → Nat) (L : List Nat) (Fo : Nat → va_E) (ho : okT G ttC tag L Fo) (p0 : Nat) (x0 : Nat) (m0 : p0 ∈ L) (g0 : tag p0 = 46) (mx0 : x0 ∈ L) (gx0 : tag x0 = 40) (pf0 : fld Fo p0 24 = .ref x0) : TMv l yX13_byNumbers cX13_byNumbers 2 { frames := 0, cells := 0, slots := 0, locals := 0 } G ttC tag L Fo [.ref p0] (fun F1 => ((∀ b j : Nat, fld F1 b j = fld Fo b j) ∧ (∀ b j : Nat, tag b ≠ 40 → elm F1 b j = elm Fo b j)) ∧ (∃ lx : Int, CAR F1 x0 4 lx)) := by
  refine t_bodyv (y := yX13_byNumbers) (cd := cX13_byNumbers) (mL := 2) (rm := { frames := 0, cells := 0, slots := 0, locals := 0 }) (av := [.ref p0]) (by decide) (Nat.le_of_ble_eq_true rfl) ho ?_
  intro p e s m args below meth c ls A Q hQ X hT hl
  have hx := X.1.1
  have hb := X.1.2.1
  have hl : lv_has ls 2 [(0, .ref p0)] := hl
  obtain ⟨F, hFo⟩ : ∃ F : Nat → va_E, F = Fo := ⟨_, rfl⟩
  rw [← hFo] at hT pf0
  have hfr : (∀ b j : Nat, fld F b j = fld Fo b j) ∧ (∀ b j : Nat, tag b ≠ 40 → elm F b j = elm Fo b j) := by
    rw [hFo]
    exact ⟨by intros; rfl, by intros; rfl⟩
  refine lv_iconst (v := 0) hx hb dX13_byNumbers_0 (by decide) ?_
  refine lv_istore_n (lv' := [(1, .int 0), (0, .ref p0)]) hx hb dX13_byNumbers_1 rfl hl (by decide) rfl (fun ls hl => ?_)
  refine lv_iload_n hx hb dX13_byNumbers_2 rfl (lv_at hl 0 rfl) ?_
  refine lv_iconst (v := 4) hx hb dX13_byNumbers_3 (by decide) ?_
  refine lv_icmp_ge (tgt := 20) hx hb dX13_byNumbers_4 (by decide) (fun c9 => absurd c9 (by decide)) (fun _ => ?_)
  refine lv_aload_n hx hb dX13_byNumbers_7 rfl (lv_at hl 1 rfl) ?_
  refine t_get (C := RX13) (T := TX13) (N := 37) X hT m0 g0 rfl rfl 24 (by decide) qw_116 inlX13 rfl dX13_byNumbers_8 (fun v48921 hv48921 ov48921 => ?_)
  obtain rfl : v48921 = .ref x0 := hv48921.symm.trans pf0
  refine lv_iload_n hx hb dX13_byNumbers_11 rfl (lv_at hl 0 rfl) ?_
  refine lv_iload_n hx hb dX13_byNumbers_12 rfl (lv_at hl 0 rfl) ?_
  refine t_ist X hT mx0 gx0 rfl (by decide) (show 0 ≤ (0 : Int32).toInt ∧ (0 : Int32).toInt ≤ 3 from (by decide)) dX13_byNumbers_13 (fun F H locs hT v48922 h1v48922 h2v48922 => ?_)
  have pf0 := (h2v48922 _ _).trans pf0
  have hfr : (∀ b j : Nat, fld F b j = fld Fo b j) ∧ (∀ b j : Nat, tag b ≠ 40 → elm F b j = elm Fo b j) := ⟨fun b j  => (h2v48922 b j).trans (hfr.1 b j ), fun b j a40 => (h1v48922 b j (Or.inl (at_ne gx0 a40))).trans (hfr.2 b j a40)⟩
  refine lv_iinc (v := 1) (lv' := [(1, .int 1), (0, .ref p0)]) hx hb dX13_byNumbers_14 hl (k := 0) rfl (by decide) (by decide) rfl (fun ls hl => ?_)
  refine lv_goto (tgt := 2) hx hb dX13_byNumbers_17 (by decide) ?_
  refine lv_iload_n hx hb dX13_byNumbers_2 rfl (lv_at hl 0 rfl) ?_
  refine lv_iconst (v := 4) hx hb dX13_byNumbers_3 (by decide) ?_
  refine lv_icmp_ge (tgt := 20) hx hb dX13_byNumbers_4 (by decide) (fun c9 => absurd c9 (by decide)) (fun _ => ?_)
  refine lv_aload_n hx hb dX13_byNumbers_7 rfl (lv_at hl 1 rfl) ?_
  refine t_get (C := RX13) (T := TX13) (N := 37) X hT m0 g0 rfl rfl 24 (by decide) qw_116 inlX13 rfl dX13_byNumbers_8 (fun v48923 hv48923 ov48923 => ?_)
  obtain rfl : v48923 = .ref x0 := hv48923.symm.trans pf0
  refine lv_iload_n hx hb dX13_byNumbers_11 rfl (lv_at hl 0 rfl) ?_
  refine lv_iload_n hx hb dX13_byNumbers_12 rfl (lv_at hl 0 rfl) ?_
  refine t_ist X hT mx0 gx0 rfl (by decide) (show 0 ≤ (1 : Int32).toInt ∧ (1 : Int32).toInt ≤ 3 from (by decide)) dX13_byNumbers_13 (fun F H locs hT v48924 h1v48924 h2v48924 => ?_)
  have pf0 := (h2v48924 _ _).trans pf0
  have k48925 : (1 : Int32).toInt = 1 := by decide
  have k48926 : (0 : Int32).toInt = 0 := by decide
  have v48922 := (h1v48924 _ _ (Or.inr (ine (by omega) (by omega) (by omega)))).trans v48922
  have hfr : (∀ b j : Nat, fld F b j = fld Fo b j) ∧ (∀ b j : Nat, tag b ≠ 40 → elm F b j = elm Fo b j) := ⟨fun b j  => (h2v48924 b j).trans (hfr.1 b j ), fun b j a40 => (h1v48924 b j (Or.inl (at_ne gx0 a40))).trans (hfr.2 b j a40)⟩
  refine lv_iinc (v := 2) (lv' := [(1, .int 2), (0, .ref p0)]) hx hb dX13_byNumbers_14 hl (k := 0) rfl (by decide) (by decide) rfl (fun ls hl => ?_)
  refine lv_goto (tgt := 2) hx hb dX13_byNumbers_17 (by decide) ?_
  refine lv_iload_n hx hb dX13_byNumbers_2 rfl (lv_at hl 0 rfl) ?_
  refine lv_iconst (v := 4) hx hb dX13_byNumbers_3 (by decide) ?_
  refine lv_icmp_ge (tgt := 20) hx hb dX13_byNumbers_4 (by decide) (fun c9 => absurd c9 (by decide)) (fun _ => ?_)
  refine lv_aload_n hx hb dX13_byNumbers_7 rfl (lv_at hl 1 rfl) ?_
  refine t_get (C := RX13) (T := TX13) (N := 37) X hT m0 g0 rfl rfl 24 (by decide) qw_116 inlX13 rfl dX13_byNumbers_8 (fun v48927 hv48927 ov48927 => ?_)
  obtain rfl : v48927 = .ref x0 := hv48927.symm.trans pf0
  refine lv_iload_n hx hb dX13_byNumbers_11 rfl (lv_at hl 0 rfl) ?_
  refine lv_iload_n hx hb dX13_byNumbers_12 rfl (lv_at hl 0 rfl) ?_
  refine t_ist X hT mx0 gx0 rfl (by decide) (show 0 ≤ (2 : Int32).toInt ∧ (2 : Int32).toInt ≤ 3 from (by decide)) dX13_byNumbers_13 (fun F H locs hT v48928 h1v48928 h2v48928 => ?_)
  have pf0 := (h2v48928 _ _).trans pf0
  have k48929 : (2 : Int32).toInt = 2 := by decide
  have k48930 : (0 : Int32).toInt = 0 := by decide
  have v48922 := (h1v48928 _ _ (Or.inr (ine (by omega) (by omega) (by omega)))).trans v48922
  have k48931 : (2 : Int32).toInt = 2 := by decide
  have k48932 : (1 : Int32).toInt = 1 := by decide
  have v48924 := (h1v48928 _ _ (Or.inr (ine (by omega) (by omega) (by omega)))).trans v48924
  have hfr : (∀ b j : Nat, fld F b j = fld Fo b j) ∧ (∀ b j : Nat, tag b ≠ 40 → elm F b j = elm Fo b j) := ⟨fun b j  => (h2v48928 b j).trans (hfr.1 b j ), fun b j a40 => (h1v48928 b j (Or.inl (at_ne gx0 a40))).trans (hfr.2 b j a40)⟩
  refine lv_iinc (v := 3) (lv' := [(1, .int 3), (0, .ref p0)]) hx hb dX13_byNumbers_14 hl (k := 0) rfl (by decide) (by decide) rfl (fun ls hl => ?_)
  refine lv_goto (tgt := 2) hx hb dX13_byNumbers_17 (by decide) ?_
  refine lv_iload_n hx hb dX13_byNumbers_2 rfl (lv_at hl 0 rfl) ?_
  refine lv_iconst (v := 4) hx hb dX13_byNumbers_3 (by decide) ?_
  refine lv_icmp_ge (tgt := 20) hx hb dX13_byNumbers_4 (by decide) (fun c9 => absurd c9 (by decide)) (fun _ => ?_)
  refine lv_aload_n hx hb dX13_byNumbers_7 rfl (lv_at hl 1 rfl) ?_
  refine t_get (C := RX13) (T := TX13) (N := 37) X hT m0 g0 rfl rfl 24 (by decide) qw_116 inlX13 rfl dX13_byNumbers_8 (fun v48933 hv48933 ov48933 => ?_)
  obtain rfl : v48933 = .ref x0 := hv48933.symm.trans pf0
  refine lv_iload_n hx hb dX13_byNumbers_11 rfl (lv_at hl 0 rfl) ?_
  refine lv_iload_n hx hb dX13_byNumbers_12 rfl (lv_at hl 0 rfl) ?_
  refine t_ist X hT mx0 gx0 rfl (by decide) (show 0 ≤ (3 : Int32).toInt ∧ (3 : Int32).toInt ≤ 3 from (by decide)) dX13_byNumbers_13 (fun F H locs hT v48934 h1v48934 h2v48934 => ?_)
  have pf0 := (h2v48934 _ _).trans pf0
  have k48935 : (3 : Int32).toInt = 3 := by decide
  have k48936 : (0 : Int32).toInt = 0 := by decide
  have v48922 := (h1v48934 _ _ (Or.inr (ine (by omega) (by omega) (by omega)))).trans v48922
  have k48937 : (3 : Int32).toInt = 3 := by decide
  have k48938 : (1 : Int32).toInt = 1 := by decide
  have v48924 := (h1v48934 _ _ (Or.inr (ine (by omega) (by omega) (by omega)))).trans v48924
  have k48939 : (3 : Int32).toInt = 3 := by decide
  have k48940 : (2 : Int32).toInt = 2 := by decide
  have v48928 := (h1v48934 _ _ (Or.inr (ine (by omega) (by omega) (by omega)))).trans v48928
  have hfr : (∀ b j : Nat, fld F b j = fld Fo b j) ∧ (∀ b j : Nat, tag b ≠ 40 → elm F b j = elm Fo b j) := ⟨fun b j  => (h2v48934 b j).trans (hfr.1 b j ), fun b j a40 => (h1v48934 b j (Or.inl (at_ne gx0 a40))).trans (hfr.2 b j a40)⟩
  refine lv_iinc (v := 4) (lv' := [(1, .int 4), (0, .ref p0)]) hx hb dX13_byNumbers_14 hl (k := 0) rfl (by decide) (by decide) rfl (fun ls hl => ?_)
  refine lv_goto (tgt := 2) hx hb dX13_byNumbers_17 (by decide) ?_
  refine lv_iload_n hx hb dX13_byNumbers_2 rfl (lv_at hl 0 rfl) ?_
  refine lv_iconst (v := 4) hx hb dX13_byNumbers_3 (by decide) ?_
  refine lv_icmp_ge (tgt := 20) hx hb dX13_byNumbers_4 (by decide) (fun _ => ?_) (fun c9 => absurd c9 (by decide))
  exact t_vret hQ X hT ⟨hfr, (car_4 v48922 v48924 v48928 v48934)⟩ (Nat.le_of_ble_eq_true rfl) (Nat.le_of_ble_eq_true rfl) dX13_byNumbers_20
set_option maxHeartbeats 4000000 in
set_option maxRecDepth 100000 in
theorem km178_X13_drawn (l : Launch) (G : KG) (tag : Nat → Nat) (L : List Nat) (Fo : Nat → va_E) (ho : okT G ttC tag L Fo) (p0 : Nat) (m0 : p0 ∈ L) (g0 : tag p0 = 37) : TMi l yX13_drawn cX13_drawn 1 (some .int) { frames := 0, cells := 0, slots := 0, locals := 0 } G ttC tag L Fo [.ref p0] (fun r F1 => ((-2147483648) ≤ r.toInt ∧ r.toInt ≤ 2147483647) ∧ ((∀ b j : Nat, fld F1 b j = fld Fo b j) ∧ (∀ b j : Nat, tag b ≠ 37 → elm F1 b j = elm Fo b j))) := by
  refine t_bodyi (y := yX13_drawn) (cd := cX13_drawn) (mL := 1) (rt := (some .int)) (rm := { frames := 0, cells := 0, slots := 0, locals := 0 }) (av := [.ref p0]) (by decide) (Nat.le_of_ble_eq_true rfl) ho ?_
  intro p e s m args below meth c ls A Q hQ X hT hl
  have hx := X.1.1
  have hb := X.1.2.1
  have hl : lv_has ls 1 [(0, .ref p0)] := hl
  obtain ⟨F, hFo⟩ : ∃ F : Nat → va_E, F = Fo := ⟨_, rfl⟩
  rw [← hFo] at hT
  have hfr : (∀ b j : Nat, fld F b j = fld Fo b j) ∧ (∀ b j : Nat, tag b ≠ 37 → elm F b j = elm Fo b j) := by
    rw [hFo]
    exact ⟨by intros; rfl, by intros; rfl⟩
  refine lv_aload_n hx hb dX13_drawn_0 rfl (lv_at hl 0 rfl) ?_
  refine lv_sipush (v := 211) hx hb dX13_drawn_1 (by decide) ?_
  refine m_ldc2 (v := 75) X qw_1171 dX13_drawn_4 ?_
  refine lv_aload_n hx hb dX13_drawn_7 rfl (lv_at hl 0 rfl) ?_
  refine lv_sipush (v := 211) hx hb dX13_drawn_8 (by decide) ?_
  refine t_ild X hT m0 g0 rfl (by decide) dX13_drawn_11 (fun z49075 vz49075 rz49075 => ?_)
  have oz49075 := rz49075
  have rz49075 := rg_all z49075
  refine lv_i2l hx hb dX13_drawn_12 rfl ?_
  refine lv_topl (fun z49076 ez49076 => ?_)
  refine lv_lmul hx hb dX13_drawn_13 ?_
  refine lv_topl (fun z49077 ez49077 => ?_)
  refine m_ldc2 (v := 74) X qw_1172 dX13_drawn_14 ?_
  refine lv_ladd hx hb dX13_drawn_17 ?_
  refine lv_topl (fun z49078 ez49078 => ?_)
  refine m_ldc2 (v := 65537) X qw_1173 dX13_drawn_18 ?_
  refine lv_lrem hx hb dX13_drawn_21 (by decide) ?_
  refine lv_topl (fun z49079 ez49079 => ?_)
  refine lv_l2i hx hb dX13_drawn_22 rfl ?_
  refine lv_topi (fun z49080 ez49080 => ?_)
  have rz49080 := rg_all z49080
  refine t_ist X hT m0 g0 rfl (by decide) (row_fv (by decide) (Or.inr (Or.inl (by decide)))) dX13_drawn_23 (fun F H locs hT v49081 h1v49081 h2v49081 => ?_)
  have hfr : (∀ b j : Nat, fld F b j = fld Fo b j) ∧ (∀ b j : Nat, tag b ≠ 37 → elm F b j = elm Fo b j) := ⟨fun b j  => (h2v49081 b j).trans (hfr.1 b j ), fun b j a37 => (h1v49081 b j (Or.inl (at_ne g0 a37))).trans (hfr.2 b j a37)⟩
  refine lv_aload_n hx hb dX13_drawn_24 rfl (lv_at hl 0 rfl) ?_
  refine lv_sipush (v := 211) hx hb dX13_drawn_25 (by decide) ?_
  refine t_ild X hT m0 g0 rfl (by decide) dX13_drawn_28 (fun z49082 vz49082 rz49082 => ?_)
  obtain rfl : z49080 = z49082 := v49081.symm.trans vz49082
  refine lv_bipush (v := 100) hx hb dX13_drawn_29 (by decide) ?_
  refine lv_irem hx hb dX13_drawn_31 (by decide) ?_
  refine lv_topi (fun z49083 ez49083 => ?_)
  have rz49083 := rg_all z49083
  exact t_iret hQ X hT (⟨rg_all _, hfr⟩) (Nat.le_of_ble_eq_true rfl) (Nat.le_of_ble_eq_true rfl) dX13_drawn_32
