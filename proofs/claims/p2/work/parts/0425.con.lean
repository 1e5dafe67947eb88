set_option maxHeartbeats 4000000 in
set_option maxRecDepth 100000 in
theorem km165_X13_through (l : Launch) (G : KG) (tag : Nat → Nat) (L : List Nat) (Fo : Nat → va_E) (ho : okT G ttC tag L Fo) (p0 : Nat) (p1 : Int32) (p2 : Int32) (x0 : Nat) (m0 : p0 ∈ L) (g0 : tag p0 = 46) (mx0 : x0 ∈ L) (gx0 : tag x0 = 45) (pf0 : fld Fo p0 3 = .ref x0) : TMi l yX13_through cX13_through 3 (some .int) { frames := 3, cells := 0, slots := 0, locals := 75 } G ttC tag L Fo [.ref p0, .int p1, .int p2] (fun r F1 => ((-2147483648) ≤ r.toInt ∧ r.toInt ≤ 2147483647) ∧ ((∀ b j : Nat, (tag b ≠ 46 ∨ j ≠ 0) → (tag b ≠ 46 ∨ j ≠ 1) → (tag b ≠ 46 ∨ j ≠ 2) → fld F1 b j = fld Fo b j) ∧ (∀ b j : Nat, tag b ≠ 42 → elm F1 b j = elm Fo b j))) := by
  refine t_bodyi (y := yX13_through) (cd := cX13_through) (mL := 3) (rt := (some .int)) (rm := { frames := 3, cells := 0, slots := 0, locals := 75 }) (av := [.ref p0, .int p1, .int p2]) (by decide) (Nat.le_of_ble_eq_true rfl) ho ?_
  intro p e s m args below meth c ls A Q hQ X hT hl
  have hx := X.1.1
  have hb := X.1.2.1
  have hl : lv_has ls 3 [(0, .ref p0), (1, .int p1), (2, .int p2)] := hl
  have rp1 := rg_all p1
  have rp2 := rg_all p2
  obtain ⟨F, hFo⟩ : ∃ F : Nat → va_E, F = Fo := ⟨_, rfl⟩
  rw [← hFo] at hT pf0
  have hfr : (∀ b j : Nat, (tag b ≠ 46 ∨ j ≠ 0) → (tag b ≠ 46 ∨ j ≠ 1) → (tag b ≠ 46 ∨ j ≠ 2) → fld F b j = fld Fo b j) ∧ (∀ b j : Nat, tag b ≠ 42 → elm F b j = elm Fo b j) := by
    rw [hFo]
    exact ⟨by intros; rfl, by intros; rfl⟩
  refine lv_aload_n hx hb dX13_through_0 rfl (lv_at hl 0 rfl) ?_
  refine lv_iconst (v := 0) hx hb dX13_through_1 (by decide) ?_
  refine t_put (C := RX13) (T := TX13) (N := 37) (v := .int 0) X hT m0 g0 rfl tyX13 tyX13_ok nmX13 rfl 0 (by decide) qw_140 inlX13 rfl (by first | rfl | decide) (by first | rfl | decide) rfl (⟨_, rfl, (show (-2147483648) ≤ (0 : Int32).toInt from (by decide)), (show (0 : Int32).toInt ≤ 2147483647 from (by decide))⟩) dX13_through_2 (fun F H locs hT v47346 h1v47346 h2v47346 => ?_)
  have pf0 := (h1v47346 _ _ (Or.inr (by decide))).trans pf0
  have hfr : (∀ b j : Nat, (tag b ≠ 46 ∨ j ≠ 0) → (tag b ≠ 46 ∨ j ≠ 1) → (tag b ≠ 46 ∨ j ≠ 2) → fld F b j = fld Fo b j) ∧ (∀ b j : Nat, tag b ≠ 42 → elm F b j = elm Fo b j) := ⟨fun b j n46_0 n46_1 n46_2 => (h1v47346 b j (fr_ne g0 n46_0)).trans (hfr.1 b j n46_0 n46_1 n46_2), fun b j a42 => (h2v47346 b j).trans (hfr.2 b j a42)⟩
  refine lv_aload_n hx hb dX13_through_5 rfl (lv_at hl 0 rfl) ?_
  refine lv_iload_n hx hb dX13_through_6 rfl (lv_at hl 1 rfl) ?_
  refine lv_iload_n hx hb dX13_through_7 rfl (lv_at hl 2 rfl) ?_
  refine t_cVi (n := 2) (C := RX13) (T := TX13) (N := 37) (As := [.int p1, .int p2]) (rest := []) X hT (km124_X13_isDepth l G tag L F hT.2.2.2 p0 p1 p2 x0 m0 g0 mx0 gx0 pf0) m0 g0 rfl rfl qw_865 qw_866 qw_867 qw_5 qw_868 ⟨rfl, by decide +kernel, by decide +kernel, by decide +kernel⟩ ⟨Nat.le_of_ble_eq_true rfl, Nat.le_of_ble_eq_true rfl⟩ hl rfl rfl (Nat.le_of_ble_eq_true rfl) dX13_through_8 ⟨Nat.le_of_ble_eq_true rfl, Nat.le_of_ble_eq_true rfl⟩ (fun z47347 F9 H locs hT hz47347 => ?_)
  obtain ⟨fz47347, hz47347⟩ := hz47347
  rw [fz47347] at hT
  obtain ⟨hz47347, iz47347⟩ := hz47347
  refine lv_if_eq (tgt := 30) hx hb dX13_through_11 (by decide) (fun c47348 => ?_) (fun c47348 => ?_)
  · have w47349 := cv_eq (rfl : z47347.toInt = z47347.toInt) (by decide : (0 : Int32).toInt = 0) c47348
    refine lv_aload_n hx hb dX13_through_30 rfl (lv_at hl 0 rfl) ?_
    refine lv_iconst (v := 1) hx hb dX13_through_31 (by decide) ?_
    refine t_cVi (n := 1) (C := RX13) (T := TX13) (N := 37) (As := [.int 1]) (rest := []) X hT (km88_X13_refused l G tag L F hT.2.2.2 p0 1 m0 g0) m0 g0 rfl rfl qw_484 qw_485 qw_486 qw_5 qw_487 ⟨rfl, by decide +kernel, by decide +kernel, by decide +kernel⟩ ⟨Nat.le_of_ble_eq_true rfl, Nat.le_of_ble_eq_true rfl⟩ hl rfl rfl (Nat.le_of_ble_eq_true rfl) dX13_through_32 ⟨Nat.le_of_ble_eq_true rfl, Nat.le_of_ble_eq_true rfl⟩ (fun z47350 F H locs hT hz47350 => ?_)
    obtain ⟨hz47350, yz47350⟩ := hz47350
    have pf0 := (yz47350.1 _ 3 (Or.inr (by decide)) (Or.inr (by decide))).trans pf0
    have v47346 := (yz47350.1 _ 0 (Or.inr (by decide)) (Or.inr (by decide))).trans v47346
    have hfr : (∀ b j : Nat, (tag b ≠ 46 ∨ j ≠ 0) → (tag b ≠ 46 ∨ j ≠ 1) → (tag b ≠ 46 ∨ j ≠ 2) → fld F b j = fld Fo b j) ∧ (∀ b j : Nat, tag b ≠ 42 → elm F b j = elm Fo b j) := ⟨fun b j n46_0 n46_1 n46_2 => (yz47350.1 b j n46_1 n46_2).trans (hfr.1 b j n46_0 n46_1 n46_2), fun b j a42 => (yz47350.2 b j ).trans (hfr.2 b j a42)⟩
    exact t_iret hQ X hT (⟨rg_all _, hfr⟩) (Nat.le_of_ble_eq_true rfl) (Nat.le_of_ble_eq_true rfl) dX13_through_35
  · have w47351 := cv_ne (rfl : z47347.toInt = z47347.toInt) (by decide : (0 : Int32).toInt = 0) c47348
    have w47352 := (fun h => (iz47347 h).1) (by omega)
    have w47353 := (fun h => (iz47347 h).2) (by omega)
    refine lv_aload_n hx hb dX13_through_14 rfl (lv_at hl 0 rfl) ?_
    refine lv_aload_n hx hb dX13_through_15 rfl (lv_at hl 0 rfl) ?_
    refine lv_iload_n hx hb dX13_through_16 rfl (lv_at hl 1 rfl) ?_
    refine lv_iload_n hx hb dX13_through_17 rfl (lv_at hl 2 rfl) ?_
    refine t_cVi (n := 2) (C := RX13) (T := TX13) (N := 37) (As := [.int p1, .int p2]) (rest := [.ref p0]) X hT (km164_X13_throughTo l G tag L F hT.2.2.2 p0 p1 p2 x0 m0 g0 (by omega) (by omega) mx0 gx0 pf0) m0 g0 rfl rfl qw_1056 qw_1057 qw_1058 qw_5 qw_1059 ⟨rfl, by decide +kernel, by decide +kernel, by decide +kernel⟩ ⟨Nat.le_of_ble_eq_true rfl, Nat.le_of_ble_eq_true rfl⟩ hl rfl rfl (Nat.le_of_ble_eq_true rfl) dX13_through_18 ⟨Nat.le_of_ble_eq_true rfl, Nat.le_of_ble_eq_true rfl⟩ (fun z47354 F H locs hT hz47354 => ?_)
    obtain ⟨hz47354, yz47354⟩ := hz47354
    have pf0 := (yz47354.1 _ 3 ).trans pf0
    have v47346 := (yz47354.1 _ 0 ).trans v47346
    have hfr : (∀ b j : Nat, (tag b ≠ 46 ∨ j ≠ 0) → (tag b ≠ 46 ∨ j ≠ 1) → (tag b ≠ 46 ∨ j ≠ 2) → fld F b j = fld Fo b j) ∧ (∀ b j : Nat, tag b ≠ 42 → elm F b j = elm Fo b j) := ⟨fun b j n46_0 n46_1 n46_2 => (yz47354.1 b j ).trans (hfr.1 b j n46_0 n46_1 n46_2), fun b j a42 => (yz47354.2 b j a42).trans (hfr.2 b j a42)⟩
    refine lv_bipush (v := 100) hx hb dX13_through_21 (by decide) ?_
    refine lv_idiv hx hb dX13_through_23 (by decide) ?_
    refine lv_topi (fun z47355 ez47355 => ?_)
    have rz47355 := rg_all z47355
    refine t_cVi (n := 1) (C := RX13) (T := TX13) (N := 37) (As := [.int z47355]) (rest := []) X hT (km93_X13_good l G tag L F hT.2.2.2 p0 z47355 m0 g0) m0 g0 rfl rfl qw_687 qw_688 qw_689 qw_5 qw_690 ⟨rfl, by decide +kernel, by decide +kernel, by decide +kernel⟩ ⟨Nat.le_of_ble_eq_true rfl, Nat.le_of_ble_eq_true rfl⟩ hl rfl rfl (Nat.le_of_ble_eq_true rfl) dX13_through_24 ⟨Nat.le_of_ble_eq_true rfl, Nat.le_of_ble_eq_true rfl⟩ (fun z47356 F H locs hT hz47356 => ?_)
    obtain ⟨hz47356, yz47356⟩ := hz47356
    have pf0 := (yz47356.1 _ 3 (Or.inr (by decide)) (Or.inr (by decide))).trans pf0
    have v47346 := (yz47356.1 _ 0 (Or.inr (by decide)) (Or.inr (by decide))).trans v47346
    have hfr : (∀ b j : Nat, (tag b ≠ 46 ∨ j ≠ 0) → (tag b ≠ 46 ∨ j ≠ 1) → (tag b ≠ 46 ∨ j ≠ 2) → fld F b j = fld Fo b j) ∧ (∀ b j : Nat, tag b ≠ 42 → elm F b j = elm Fo b j) := ⟨fun b j n46_0 n46_1 n46_2 => (yz47356.1 b j n46_1 n46_2).trans (hfr.1 b j n46_0 n46_1 n46_2), fun b j a42 => (yz47356.2 b j ).trans (hfr.2 b j a42)⟩
    refine lv_goto (tgt := 35) hx hb dX13_through_27 (by decide) ?_
    exact t_iret hQ X hT (⟨rg_all _, hfr⟩) (Nat.le_of_ble_eq_true rfl) (Nat.le_of_ble_eq_true rfl) dX13_through_35
set_option maxHeartbeats 4000000 in
set_option maxRecDepth 100000 in
theorem km166_X13_through (l : Launch) (G : KG) (tag : Nat → Nat) (L : List Nat) (Fo : Nat → va_E) (ho : okT G ttC tag L Fo) (p0 : Nat) (p1 : Int32) (p2 : Int32) (m0 : p0 ∈ L) (g0 : tag p0 = 46) (pf0 : fld Fo p0 3 = .null) : TMi l yX13_through cX13_through 3 (some .int) { frames := 3, cells := 0, slots := 0, locals := 75 } G ttC tag L Fo [.ref p0, .int p1, .int p2] (fun r F1 => ((-2147483648) ≤ r.toInt ∧ r.toInt ≤ 2147483647) ∧ ((∀ b j : Nat, (tag b ≠ 46 ∨ j ≠ 0) → (tag b ≠ 46 ∨ j ≠ 1) → (tag b ≠ 46 ∨ j ≠ 2) → fld F1 b j = fld Fo b j) ∧ (∀ b j : Nat, tag b ≠ 42 → elm F1 b j = elm Fo b j))) := by
  refine t_bodyi (y := yX13_through) (cd := cX13_through) (mL := 3) (rt := (some .int)) (rm := { frames := 3, cells := 0, slots := 0, locals := 75 }) (av := [.ref p0, .int p1, .int p2]) (by decide) (Nat.le_of_ble_eq_true rfl) ho ?_
  intro p e s m args below meth c ls A Q hQ X hT hl
  have hx := X.1.1
  have hb := X.1.2.1
  have hl : lv_has ls 3 [(0, .ref p0), (1, .int p1), (2, .int p2)] := hl
  have rp1 := rg_all p1
  have rp2 := rg_all p2
  obtain ⟨F, hFo⟩ : ∃ F : Nat → va_E, F = Fo := ⟨_, rfl⟩
  rw [← hFo] at hT pf0
  have hfr : (∀ b j : Nat, (tag b ≠ 46 ∨ j ≠ 0) → (tag b ≠ 46 ∨ j ≠ 1) → (tag b ≠ 46 ∨ j ≠ 2) → fld F b j = fld Fo b j) ∧ (∀ b j : Nat, tag b ≠ 42 → elm F b j = elm Fo b j) := by
    rw [hFo]
    exact ⟨by intros; rfl, by intros; rfl⟩
  refine lv_aload_n hx hb dX13_through_0 rfl (lv_at hl 0 rfl) ?_
  refine lv_iconst (v := 0) hx hb dX13_through_1 (by decide) ?_
  refine t_put (C := RX13) (T := TX13) (N := 37) (v := .int 0) X hT m0 g0 rfl tyX13 tyX13_ok nmX13 rfl 0 (by decide) qw_140 inlX13 rfl (by first | rfl | decide) (by first | rfl | decide) rfl (⟨_, rfl, (show (-2147483648) ≤ (0 : Int32).toInt from (by decide)), (show (0 : Int32).toInt ≤ 2147483647 from (by decide))⟩) dX13_through_2 (fun F H locs hT v47423 h1v47423 h2v47423 => ?_)
  have pf0 := (h1v47423 _ _ (Or.inr (by decide))).trans pf0
  have hfr : (∀ b j : Nat, (tag b ≠ 46 ∨ j ≠ 0) → (tag b ≠ 46 ∨ j ≠ 1) → (tag b ≠ 46 ∨ j ≠ 2) → fld F b j = fld Fo b j) ∧ (∀ b j : Nat, tag b ≠ 42 → elm F b j = elm Fo b j) := ⟨fun b j n46_0 n46_1 n46_2 => (h1v47423 b j (fr_ne g0 n46_0)).trans (hfr.1 b j n46_0 n46_1 n46_2), fun b j a42 => (h2v47423 b j).trans (hfr.2 b j a42)⟩
  refine lv_aload_n hx hb dX13_through_5 rfl (lv_at hl 0 rfl) ?_
  refine lv_iload_n hx hb dX13_through_6 rfl (lv_at hl 1 rfl) ?_
  refine lv_iload_n hx hb dX13_through_7 rfl (lv_at hl 2 rfl) ?_
  refine t_cVi (n := 2) (C := RX13) (T := TX13) (N := 37) (As := [.int p1, .int p2]) (rest := []) X hT (km127_X13_isDepth l G tag L F hT.2.2.2 p0 p1 p2 m0 g0 pf0) m0 g0 rfl rfl qw_865 qw_866 qw_867 qw_5 qw_868 ⟨rfl, by decide +kernel, by decide +kernel, by decide +kernel⟩ ⟨Nat.le_of_ble_eq_true rfl, Nat.le_of_ble_eq_true rfl⟩ hl rfl rfl (Nat.le_of_ble_eq_true rfl) dX13_through_8 ⟨Nat.le_of_ble_eq_true rfl, Nat.le_of_ble_eq_true rfl⟩ (fun z47424 F9 H locs hT hz47424 => ?_)
  obtain ⟨fz47424, hz47424⟩ := hz47424
  rw [fz47424] at hT
  refine lv_if_eq (tgt := 30) hx hb dX13_through_11 (by decide) (fun c47425 => ?_) (fun c47425 => ?_)
  · have w47426 := cv_eq (rfl : z47424.toInt = z47424.toInt) (by decide : (0 : Int32).toInt = 0) c47425
    refine lv_aload_n hx hb dX13_through_30 rfl (lv_at hl 0 rfl) ?_
    refine lv_iconst (v := 1) hx hb dX13_through_31 (by decide) ?_
    refine t_cVi (n := 1) (C := RX13) (T := TX13) (N := 37) (As := [.int 1]) (rest := []) X hT (km88_X13_refused l G tag L F hT.2.2.2 p0 1 m0 g0) m0 g0 rfl rfl qw_484 qw_485 qw_486 qw_5 qw_487 ⟨rfl, by decide +kernel, by decide +kernel, by decide +kernel⟩ ⟨Nat.le_of_ble_eq_true rfl, Nat.le_of_ble_eq_true rfl⟩ hl rfl rfl (Nat.le_of_ble_eq_true rfl) dX13_through_32 ⟨Nat.le_of_ble_eq_true rfl, Nat.le_of_ble_eq_true rfl⟩ (fun z47427 F H locs hT hz47427 => ?_)
    obtain ⟨hz47427, yz47427⟩ := hz47427
    have pf0 := (yz47427.1 _ 3 (Or.inr (by decide)) (Or.inr (by decide))).trans pf0
    have v47423 := (yz47427.1 _ 0 (Or.inr (by decide)) (Or.inr (by decide))).trans v47423
    have hfr : (∀ b j : Nat, (tag b ≠ 46 ∨ j ≠ 0) → (tag b ≠ 46 ∨ j ≠ 1) → (tag b ≠ 46 ∨ j ≠ 2) → fld F b j = fld Fo b j) ∧ (∀ b j : Nat, tag b ≠ 42 → elm F b j = elm Fo b j) := ⟨fun b j n46_0 n46_1 n46_2 => (yz47427.1 b j n46_1 n46_2).trans (hfr.1 b j n46_0 n46_1 n46_2), fun b j a42 => (yz47427.2 b j ).trans (hfr.2 b j a42)⟩
    exact t_iret hQ X hT (⟨rg_all _, hfr⟩) (Nat.le_of_ble_eq_true rfl) (Nat.le_of_ble_eq_true rfl) dX13_through_35
  · have w47428 := cv_ne (rfl : z47424.toInt = z47424.toInt) (by decide : (0 : Int32).toInt = 0) c47425
    exfalso
    omega
theorem kp_X13_through (l : Launch) (G : KG) (tag : Nat → Nat) (L : List Nat) (Fo : Nat → va_E) (ho : okT G ttC tag L Fo) (p0 : Nat) (p1 : Int32) (p2 : Int32) (m0 : p0 ∈ L) (g0 : tag p0 = 46) : TMi l yX13_through cX13_through 3 (some .int) { frames := 3, cells := 0, slots := 0, locals := 75 } G ttC tag L Fo [.ref p0, .int p1, .int p2] (fun r F1 => ((-2147483648) ≤ r.toInt ∧ r.toInt ≤ 2147483647) ∧ ((∀ b j : Nat, (tag b ≠ 46 ∨ j ≠ 0) → (tag b ≠ 46 ∨ j ≠ 1) → (tag b ≠ 46 ∨ j ≠ 2) → fld F1 b j = fld Fo b j) ∧ (∀ b j : Nat, tag b ≠ 42 → elm F1 b j = elm Fo b j))) := by
  rcases t_fldn ho m0 g0 rfl 3 rfl with h9 | ⟨b9, h9, m9, t9⟩
  · exact km166_X13_through l G tag L Fo ho p0 p1 p2  m0 g0 h9 
  · exact km165_X13_through l G tag L Fo ho p0 p1 p2 b9  m0 g0 m9 (tg_of t9) h9 
set_option maxHeartbeats 4000000 in
set_option maxRecDepth 100000 in
theorem km168_X13_breaks (l : Launch) (G : KG) (tag : Nat → Nat) (L : List Nat) (Fo : Nat → va_E) (ho : okT G ttC tag L Fo) (p0 : Nat) (p1 : Int32) (p2 : Int32) (x0 : Nat) (m0 : p0 ∈ L) (g0 : tag p0 = 46) (mx0 : x0 ∈ L) (gx0 : tag x0 = 45) (pf0 : fld Fo p0 3 = .ref x0) : TMi l yX13_breaks cX13_breaks 3 (some .int) { frames := 3, cells := 0, slots := 0, locals := 75 } G ttC tag L Fo [.ref p0, .int p1, .int p2] (fun r F1 => ((-2147483648) ≤ r.toInt ∧ r.toInt ≤ 2147483647) ∧ ((∀ b j : Nat, (tag b ≠ 46 ∨ j ≠ 0) → (tag b ≠ 46 ∨ j ≠ 1) → (tag b ≠ 46 ∨ j ≠ 2) → fld F1 b j = fld Fo b j) ∧ (∀ b j : Nat, tag b ≠ 42 → elm F1 b j = elm Fo b j))) := by
  refine t_bodyi (y := yX13_breaks) (cd := cX13_breaks) (mL := 3) (rt := (some .int)) (rm := { frames := 3, cells := 0, slots := 0, locals := 75 }) (av := [.ref p0, .int p1, .int p2]) (by decide) (Nat.le_of_ble_eq_true rfl) ho ?_
  intro p e s m args below meth c ls A Q hQ X hT hl
  have hx := X.1.1
  have hb := X.1.2.1
  have hl : lv_has ls 3 [(0, .ref p0), (1, .int p1), (2, .int p2)] := hl
  have rp1 := rg_all p1
  have rp2 := rg_all p2
  obtain ⟨F, hFo⟩ : ∃ F : Nat → va_E, F = Fo := ⟨_, rfl⟩
  rw [← hFo] at hT pf0
  have hfr : (∀ b j : Nat, (tag b ≠ 46 ∨ j ≠ 0) → (tag b ≠ 46 ∨ j ≠ 1) → (tag b ≠ 46 ∨ j ≠ 2) → fld F b j = fld Fo b j) ∧ (∀ b j : Nat, tag b ≠ 42 → elm F b j = elm Fo b j) := by
    rw [hFo]
    exact ⟨by intros; rfl, by intros; rfl⟩
  refine lv_aload_n hx hb dX13_breaks_0 rfl (lv_at hl 0 rfl) ?_
  refine lv_iconst (v := 0) hx hb dX13_breaks_1 (by decide) ?_
  refine t_put (C := RX13) (T := TX13) (N := 37) (v := .int 0) X hT m0 g0 rfl tyX13 tyX13_ok nmX13 rfl 0 (by decide) qw_140 inlX13 rfl (by first | rfl | decide) (by first | rfl | decide) rfl (⟨_, rfl, (show (-2147483648) ≤ (0 : Int32).toInt from (by decide)), (show (0 : Int32).toInt ≤ 2147483647 from (by decide))⟩) dX13_breaks_2 (fun F H locs hT v47550 h1v47550 h2v47550 => ?_)
  have pf0 := (h1v47550 _ _ (Or.inr (by decide))).trans pf0
  have hfr : (∀ b j : Nat, (tag b ≠ 46 ∨ j ≠ 0) → (tag b ≠ 46 ∨ j ≠ 1) → (tag b ≠ 46 ∨ j ≠ 2) → fld F b j = fld Fo b j) ∧ (∀ b j : Nat, tag b ≠ 42 → elm F b j = elm Fo b j) := ⟨fun b j n46_0 n46_1 n46_2 => (h1v47550 b j (fr_ne g0 n46_0)).trans (hfr.1 b j n46_0 n46_1 n46_2), fun b j a42 => (h2v47550 b j).trans (hfr.2 b j a42)⟩
  refine lv_aload_n hx hb dX13_breaks_5 rfl (lv_at hl 0 rfl) ?_
  refine lv_iload_n hx hb dX13_breaks_6 rfl (lv_at hl 1 rfl) ?_
  refine lv_iload_n hx hb dX13_breaks_7 rfl (lv_at hl 2 rfl) ?_
  refine t_cVi (n := 2) (C := RX13) (T := TX13) (N := 37) (As := [.int p1, .int p2]) (rest := []) X hT (km124_X13_isDepth l G tag L F hT.2.2.2 p0 p1 p2 x0 m0 g0 mx0 gx0 pf0) m0 g0 rfl rfl qw_865 qw_866 qw_867 qw_5 qw_868 ⟨rfl, by decide +kernel, by decide +kernel, by decide +kernel⟩ ⟨Nat.le_of_ble_eq_true rfl, Nat.le_of_ble_eq_true rfl⟩ hl rfl rfl (Nat.le_of_ble_eq_true rfl) dX13_breaks_8 ⟨Nat.le_of_ble_eq_true rfl, Nat.le_of_ble_eq_true rfl⟩ (fun z47551 F9 H locs hT hz47551 => ?_)
  obtain ⟨fz47551, hz47551⟩ := hz47551
  rw [fz47551] at hT
  obtain ⟨hz47551, iz47551⟩ := hz47551
  refine lv_if_eq (tgt := 30) hx hb dX13_breaks_11 (by decide) (fun c47552 => ?_) (fun c47552 => ?_)
  · have w47553 := cv_eq (rfl : z47551.toInt = z47551.toInt) (by decide : (0 : Int32).toInt = 0) c47552
    refine lv_aload_n hx hb dX13_breaks_30 rfl (lv_at hl 0 rfl) ?_
    refine lv_iconst (v := 1) hx hb dX13_breaks_31 (by decide) ?_
    refine t_cVi (n := 1) (C := RX13) (T := TX13) (N := 37) (As := [.int 1]) (rest := []) X hT (km88_X13_refused l G tag L F hT.2.2.2 p0 1 m0 g0) m0 g0 rfl rfl qw_484 qw_485 qw_486 qw_5 qw_487 ⟨rfl, by decide +kernel, by decide +kernel, by decide +kernel⟩ ⟨Nat.le_of_ble_eq_true rfl, Nat.le_of_ble_eq_true rfl⟩ hl rfl rfl (Nat.le_of_ble_eq_true rfl) dX13_breaks_32 ⟨Nat.le_of_ble_eq_true rfl, Nat.le_of_ble_eq_true rfl⟩ (fun z47554 F H locs hT hz47554 => ?_)
    obtain ⟨hz47554, yz47554⟩ := hz47554
    have pf0 := (yz47554.1 _ 3 (Or.inr (by decide)) (Or.inr (by decide))).trans pf0
    have v47550 := (yz47554.1 _ 0 (Or.inr (by decide)) (Or.inr (by decide))).trans v47550
    have hfr : (∀ b j : Nat, (tag b ≠ 46 ∨ j ≠ 0) → (tag b ≠ 46 ∨ j ≠ 1) → (tag b ≠ 46 ∨ j ≠ 2) → fld F b j = fld Fo b j) ∧ (∀ b j : Nat, tag b ≠ 42 → elm F b j = elm Fo b j) := ⟨fun b j n46_0 n46_1 n46_2 => (yz47554.1 b j n46_1 n46_2).trans (hfr.1 b j n46_0 n46_1 n46_2), fun b j a42 => (yz47554.2 b j ).trans (hfr.2 b j a42)⟩
    exact t_iret hQ X hT (⟨rg_all _, hfr⟩) (Nat.le_of_ble_eq_true rfl) (Nat.le_of_ble_eq_true rfl) dX13_breaks_35
  · have w47555 := cv_ne (rfl : z47551.toInt = z47551.toInt) (by decide : (0 : Int32).toInt = 0) c47552
    have w47556 := (fun h => (iz47551 h).1) (by omega)
    have w47557 := (fun h => (iz47551 h).2) (by omega)
    refine lv_aload_n hx hb dX13_breaks_14 rfl (lv_at hl 0 rfl) ?_
    refine lv_aload_n hx hb dX13_breaks_15 rfl (lv_at hl 0 rfl) ?_
    refine lv_iload_n hx hb dX13_breaks_16 rfl (lv_at hl 1 rfl) ?_
    refine lv_iload_n hx hb dX13_breaks_17 rfl (lv_at hl 2 rfl) ?_
    refine t_cVi (n := 2) (C := RX13) (T := TX13) (N := 37) (As := [.int p1, .int p2]) (rest := [.ref p0]) X hT (km164_X13_throughTo l G tag L F hT.2.2.2 p0 p1 p2 x0 m0 g0 (by omega) (by omega) mx0 gx0 pf0) m0 g0 rfl rfl qw_1056 qw_1057 qw_1058 qw_5 qw_1059 ⟨rfl, by decide +kernel, by decide +kernel, by decide +kernel⟩ ⟨Nat.le_of_ble_eq_true rfl, Nat.le_of_ble_eq_true rfl⟩ hl rfl rfl (Nat.le_of_ble_eq_true rfl) dX13_breaks_18 ⟨Nat.le_of_ble_eq_true rfl, Nat.le_of_ble_eq_true rfl⟩ (fun z47558 F H locs hT hz47558 => ?_)
    obtain ⟨hz47558, yz47558⟩ := hz47558
    have pf0 := (yz47558.1 _ 3 ).trans pf0
    have v47550 := (yz47558.1 _ 0 ).trans v47550
    have hfr : (∀ b j : Nat, (tag b ≠ 46 ∨ j ≠ 0) → (tag b ≠ 46 ∨ j ≠ 1) → (tag b ≠ 46 ∨ j ≠ 2) → fld F b j = fld Fo b j) ∧ (∀ b j : Nat, tag b ≠ 42 → elm F b j = elm Fo b j) := ⟨fun b j n46_0 n46_1 n46_2 => (yz47558.1 b j ).trans (hfr.1 b j n46_0 n46_1 n46_2), fun b j a42 => (yz47558.2 b j a42).trans (hfr.2 b j a42)⟩
    refine lv_bipush (v := 100) hx hb dX13_breaks_21 (by decide) ?_
    refine lv_irem hx hb dX13_breaks_23 (by decide) ?_
    refine lv_topi (fun z47559 ez47559 => ?_)
    have rz47559 := rg_all z47559
    refine t_cVi (n := 1) (C := RX13) (T := TX13) (N := 37) (As := [.int z47559]) (rest := []) X hT (km93_X13_good l G tag L F hT.2.2.2 p0 z47559 m0 g0) m0 g0 rfl rfl qw_687 qw_688 qw_689 qw_5 qw_690 ⟨rfl, by decide +kernel, by decide +kernel, by decide +kernel⟩ ⟨Nat.le_of_ble_eq_true rfl, Nat.le_of_ble_eq_true rfl⟩ hl rfl rfl (Nat.le_of_ble_eq_true rfl) dX13_breaks_24 ⟨Nat.le_of_ble_eq_true rfl, Nat.le_of_ble_eq_true rfl⟩ (fun z47560 F H locs hT hz47560 => ?_)
    obtain ⟨hz47560, yz47560⟩ := hz47560
    have pf0 := (yz47560.1 _ 3 (Or.inr (by decide)) (Or.inr (by decide))).trans pf0
    have v47550 := (yz47560.1 _ 0 (Or.inr (by decide)) (Or.inr (by decide))).trans v47550
    have hfr : (∀ b j : Nat, (tag b ≠ 46 ∨ j ≠ 0) → (tag b ≠ 46 ∨ j ≠ 1) → (tag b ≠ 46 ∨ j ≠ 2) → fld F b j = fld Fo b j) ∧ (∀ b j : Nat, tag b ≠ 42 → elm F b j = elm Fo b j) := ⟨fun b j n46_0 n46_1 n46_2 => (yz47560.1 b j n46_1 n46_2).trans (hfr.1 b j n46_0 n46_1 n46_2), fun b j a42 => (yz47560.2 b j ).trans (hfr.2 b j a42)⟩
    refine lv_goto (tgt := 35) hx hb dX13_breaks_27 (by decide) ?_
    exact t_iret hQ X hT (⟨rg_all _, hfr⟩) (Nat.le_of_ble_eq_true rfl) (Nat.le_of_ble_eq_true rfl) dX13_breaks_35
set_option maxHeartbeats 4000000 in
set_option maxRecDepth 100000 in
theorem km169_X13_breaks (l : Launch) (G : KG) (tag : Nat → Nat) (L : List Nat) (Fo : Nat → va_E) (ho : okT G ttC tag L Fo) (p0 : Nat) (p1 : Int32) (p2 : Int32) (m0 : p0 ∈ L) (g0 : tag p0 = 46) (pf0 : fld Fo p0 3 = .null) : TMi l yX13_breaks cX13_breaks 3 (some .int) { frames := 3, cells := 0, slots := 0, locals := 75 } G ttC tag L Fo [.ref p0, .int p1, .int p2] (fun r F1 => ((-2147483648) ≤ r.toInt ∧ r.toInt ≤ 2147483647) ∧ ((∀ b j : Nat, (tag b ≠ 46 ∨ j ≠ 0) → (tag b ≠ 46 ∨ j ≠ 1) → (tag b ≠ 46 ∨ j ≠ 2) → fld F1 b j = fld Fo b j) ∧ (∀ b j : Nat, tag b ≠ 42 → elm F1 b j = elm Fo b j))) := by
  refine t_bodyi (y := yX13_breaks) (cd := cX13_breaks) (mL := 3) (rt := (some .int)) (rm := { frames := 3, cells := 0, slots := 0, locals := 75 }) (av := [.ref p0, .int p1, .int p2]) (by decide) (Nat.le_of_ble_eq_true rfl) ho ?_
  intro p e s m args below meth c ls A Q hQ X hT hl
  have hx := X.1.1
  have hb := X.1.2.1
  have hl : lv_has ls 3 [(0, .ref p0), (1, .int p1), (2, .int p2)] := hl
  have rp1 := rg_all p1
  have rp2 := rg_all p2
  obtain ⟨F, hFo⟩ : ∃ F : Nat → va_E, F = Fo := ⟨_, rfl⟩
  rw [← hFo] at hT pf0
  have hfr : (∀ b j : Nat, (tag b ≠ 46 ∨ j ≠ 0) → (tag b ≠ 46 ∨ j ≠ 1) → (tag b ≠ 46 ∨ j ≠ 2) → fld F b j = fld Fo b j) ∧ (∀ b j : Nat, tag b ≠ 42 → elm F b j = elm Fo b j) := by
    rw [hFo]
    exact ⟨by intros; rfl, by intros; rfl⟩
  refine lv_aload_n hx hb dX13_breaks_0 rfl (lv_at hl 0 rfl) ?_
  refine lv_iconst (v := 0) hx hb dX13_breaks_1 (by decide) ?_
  refine t_put (C := RX13) (T := TX13) (N := 37) (v := .int 0) X hT m0 g0 rfl tyX13 tyX13_ok nmX13 rfl 0 (by decide) qw_140 inlX13 rfl (by first | rfl | decide) (by first | rfl | decide) rfl (⟨_, rfl, (show (-2147483648) ≤ (0 : Int32).toInt from (by decide)), (show (0 : Int32).toInt ≤ 2147483647 from (by decide))⟩) dX13_breaks_2 (fun F H locs hT v47627 h1v47627 h2v47627 => ?_)
  have pf0 := (h1v47627 _ _ (Or.inr (by decide))).trans pf0
  have hfr : (∀ b j : Nat, (tag b ≠ 46 ∨ j ≠ 0) → (tag b ≠ 46 ∨ j ≠ 1) → (tag b ≠ 46 ∨ j ≠ 2) → fld F b j = fld Fo b j) ∧ (∀ b j : Nat, tag b ≠ 42 → elm F b j = elm Fo b j) := ⟨fun b j n46_0 n46_1 n46_2 => (h1v47627 b j (fr_ne g0 n46_0)).trans (hfr.1 b j n46_0 n46_1 n46_2), fun b j a42 => (h2v47627 b j).trans (hfr.2 b j a42)⟩
  refine lv_aload_n hx hb dX13_breaks_5 rfl (lv_at hl 0 rfl) ?_
  refine lv_iload_n hx hb dX13_breaks_6 rfl (lv_at hl 1 rfl) ?_
  refine lv_iload_n hx hb dX13_breaks_7 rfl (lv_at hl 2 rfl) ?_
  refine t_cVi (n := 2) (C := RX13) (T := TX13) (N := 37) (As := [.int p1, .int p2]) (rest := []) X hT (km127_X13_isDepth l G tag L F hT.2.2.2 p0 p1 p2 m0 g0 pf0) m0 g0 rfl rfl qw_865 qw_866 qw_867 qw_5 qw_868 ⟨rfl, by decide +kernel, by decide +kernel, by decide +kernel⟩ ⟨Nat.le_of_ble_eq_true rfl, Nat.le_of_ble_eq_true rfl⟩ hl rfl rfl (Nat.le_of_ble_eq_true rfl) dX13_breaks_8 ⟨Nat.le_of_ble_eq_true rfl, Nat.le_of_ble_eq_true rfl⟩ (fun z47628 F9 H locs hT hz47628 => ?_)
  obtain ⟨fz47628, hz47628⟩ := hz47628
  rw [fz47628] at hT
  refine lv_if_eq (tgt := 30) hx hb dX13_breaks_11 (by decide) (fun c47629 => ?_) (fun c47629 => ?_)
  · have w47630 := cv_eq (rfl : z47628.toInt = z47628.toInt) (by decide : (0 : Int32).toInt = 0) c47629
    refine lv_aload_n hx hb dX13_breaks_30 rfl (lv_at hl 0 rfl) ?_
    refine lv_iconst (v := 1) hx hb dX13_breaks_31 (by decide) ?_
    refine t_cVi (n := 1) (C := RX13) (T := TX13) (N := 37) (As := [.int 1]) (rest := []) X hT (km88_X13_refused l G tag L F hT.2.2.2 p0 1 m0 g0) m0 g0 rfl rfl qw_484 qw_485 qw_486 qw_5 qw_487 ⟨rfl, by decide +kernel, by decide +kernel, by decide +kernel⟩ ⟨Nat.le_of_ble_eq_true rfl, Nat.le_of_ble_eq_true rfl⟩ hl rfl rfl (Nat.le_of_ble_eq_true rfl) dX13_breaks_32 ⟨Nat.le_of_ble_eq_true rfl, Nat.le_of_ble_eq_true rfl⟩ (fun z47631 F H locs hT hz47631 => ?_)
    obtain ⟨hz47631, yz47631⟩ := hz47631
    have pf0 := (yz47631.1 _ 3 (Or.inr (by decide)) (Or.inr (by decide))).trans pf0
    have v47627 := (yz47631.1 _ 0 (Or.inr (by decide)) (Or.inr (by decide))).trans v47627
    have hfr : (∀ b j : Nat, (tag b ≠ 46 ∨ j ≠ 0) → (tag b ≠ 46 ∨ j ≠ 1) → (tag b ≠ 46 ∨ j ≠ 2) → fld F b j = fld Fo b j) ∧ (∀ b j : Nat, tag b ≠ 42 → elm F b j = elm Fo b j) := ⟨fun b j n46_0 n46_1 n46_2 => (yz47631.1 b j n46_1 n46_2).trans (hfr.1 b j n46_0 n46_1 n46_2), fun b j a42 => (yz47631.2 b j ).trans (hfr.2 b j a42)⟩
    exact t_iret hQ X hT (⟨rg_all _, hfr⟩) (Nat.le_of_ble_eq_true rfl) (Nat.le_of_ble_eq_true rfl) dX13_breaks_35
  · have w47632 := cv_ne (rfl : z47628.toInt = z47628.toInt) (by decide : (0 : Int32).toInt = 0) c47629
    exfalso
    omega
theorem kp_X13_breaks (l : Launch) (G : KG) (tag : Nat → Nat) (L : List Nat) (Fo : Nat → va_E) (ho : okT G ttC tag L Fo) (p0 : Nat) (p1 : Int32) (p2 : Int32) (m0 : p0 ∈ L) (g0 : tag p0 = 46) : TMi l yX13_breaks cX13_breaks 3 (some .int) { frames := 3, cells := 0, slots := 0, locals := 75 } G ttC tag L Fo [.ref p0, .int p1, .int p2] (fun r F1 => ((-2147483648) ≤ r.toInt ∧ r.toInt ≤ 2147483647) ∧ ((∀ b j : Nat, (tag b ≠ 46 ∨ j ≠ 0) → (tag b ≠ 46 ∨ j ≠ 1) → (tag b ≠ 46 ∨ j ≠ 2) → fld F1 b j = fld Fo b j) ∧ (∀ b j : Nat, tag b ≠ 42 → elm F1 b j = elm Fo b j))) := by
  rcases t_fldn ho m0 g0 rfl 3 rfl with h9 | ⟨b9, h9, m9, t9⟩
  · exact km169_X13_breaks l G tag L Fo ho p0 p1 p2  m0 g0 h9 
  · exact km168_X13_breaks l G tag L Fo ho p0 p1 p2 b9  m0 g0 m9 (tg_of t9) h9 
set_option maxHeartbeats 4000000 in
set_option maxRecDepth 100000 in
theorem km171_X13_round (l : Launch) (G : KG) (tag : Nat → Nat) (L : List Nat) (Fo : Nat → va_E) (ho : okT G ttC tag L Fo) (p0 : Nat) (p1 : Int32) (p2 : Int32) (x0 : Nat) (m0 : p0 ∈ L) (g0 : tag p0 = 46) (mx0 : x0 ∈ L) (gx0 : tag x0 = 45) (pf0 : fld Fo p0 3 = .ref x0) : TMi l yX13_round cX13_round 3 (some .int) { frames := 3, cells := 0, slots := 0, locals := 66 } G ttC tag L Fo [.ref p0, .int p1, .int p2] (fun r F1 => ((-2147483648) ≤ r.toInt ∧ r.toInt ≤ 2147483647) ∧ ((∀ b j : Nat, (tag b ≠ 46 ∨ j ≠ 0) → (tag b ≠ 46 ∨ j ≠ 1) → (tag b ≠ 46 ∨ j ≠ 2) → fld F1 b j = fld Fo b j) ∧ (∀ b j : Nat, elm F1 b j = elm Fo b j))) := by
  refine t_bodyi (y := yX13_round) (cd := cX13_round) (mL := 3) (rt := (some .int)) (rm := { frames := 3, cells := 0, slots := 0, locals := 66 }) (av := [.ref p0, .int p1, .int p2]) (by decide) (Nat.le_of_ble_eq_true rfl) ho ?_
  intro p e s m args below meth c ls A Q hQ X hT hl
  have hx := X.1.1
  have hb := X.1.2.1
  have hl : lv_has ls 3 [(0, .ref p0), (1, .int p1), (2, .int p2)] := hl
  have rp1 := rg_all p1
  have rp2 := rg_all p2
  obtain ⟨F, hFo⟩ : ∃ F : Nat → va_E, F = Fo := ⟨_, rfl⟩
  rw [← hFo] at hT pf0
  have hfr : (∀ b j : Nat, (tag b ≠ 46 ∨ j ≠ 0) → (tag b ≠ 46 ∨ j ≠ 1) → (tag b ≠ 46 ∨ j ≠ 2) → fld F b j = fld Fo b j) ∧ (∀ b j : Nat, elm F b j = elm Fo b j) := by
    rw [hFo]
    exact ⟨by intros; rfl, by intros; rfl⟩
  refine lv_aload_n hx hb dX13_round_0 rfl (lv_at hl 0 rfl) ?_
  refine lv_iconst (v := 0) hx hb dX13_round_1 (by decide) ?_
  refine t_put (C := RX13) (T := TX13) (N := 37) (v := .int 0) X hT m0 g0 rfl tyX13 tyX13_ok nmX13 rfl 0 (by decide) qw_140 inlX13 rfl (by first | rfl | decide) (by first | rfl | decide) rfl (⟨_, rfl, (show (-2147483648) ≤ (0 : Int32).toInt from (by decide)), (show (0 : Int32).toInt ≤ 2147483647 from (by decide))⟩) dX13_round_2 (fun F H locs hT v47809 h1v47809 h2v47809 => ?_)
  have pf0 := (h1v47809 _ _ (Or.inr (by decide))).trans pf0
  have hfr : (∀ b j : Nat, (tag b ≠ 46 ∨ j ≠ 0) → (tag b ≠ 46 ∨ j ≠ 1) → (tag b ≠ 46 ∨ j ≠ 2) → fld F b j = fld Fo b j) ∧ (∀ b j : Nat, elm F b j = elm Fo b j) := ⟨fun b j n46_0 n46_1 n46_2 => (h1v47809 b j (fr_ne g0 n46_0)).trans (hfr.1 b j n46_0 n46_1 n46_2), fun b j  => (h2v47809 b j).trans (hfr.2 b j )⟩
  refine lv_aload_n hx hb dX13_round_5 rfl (lv_at hl 0 rfl) ?_
  refine lv_iload_n hx hb dX13_round_6 rfl (lv_at hl 1 rfl) ?_
  refine lv_iload_n hx hb dX13_round_7 rfl (lv_at hl 2 rfl) ?_
  refine t_cVi (n := 2) (C := RX13) (T := TX13) (N := 37) (As := [.int p1, .int p2]) (rest := []) X hT (km119_X13_isSkin l G tag L F hT.2.2.2 p0 p1 p2 x0 m0 g0 mx0 gx0 pf0) m0 g0 rfl rfl qw_836 qw_837 qw_838 qw_5 qw_839 ⟨rfl, by decide +kernel, by decide +kernel, by decide +kernel⟩ ⟨Nat.le_of_ble_eq_true rfl, Nat.le_of_ble_eq_true rfl⟩ hl rfl rfl (Nat.le_of_ble_eq_true rfl) dX13_round_8 ⟨Nat.le_of_ble_eq_true rfl, Nat.le_of_ble_eq_true rfl⟩ (fun z47810 F9 H locs hT hz47810 => ?_)
  obtain ⟨fz47810, hz47810⟩ := hz47810
  rw [fz47810] at hT
  obtain ⟨hz47810, iz47810⟩ := hz47810
  refine lv_if_eq (tgt := 35) hx hb dX13_round_11 (by decide) (fun c47811 => ?_) (fun c47811 => ?_)
  · have w47812 := cv_eq (rfl : z47810.toInt = z47810.toInt) (by decide : (0 : Int32).toInt = 0) c47811
    refine lv_aload_n hx hb dX13_round_35 rfl (lv_at hl 0 rfl) ?_
    refine lv_iconst (v := 1) hx hb dX13_round_36 (by decide) ?_
    refine t_cVi (n := 1) (C := RX13) (T := TX13) (N := 37) (As := [.int 1]) (rest := []) X hT (km88_X13_refused l G tag L F hT.2.2.2 p0 1 m0 g0) m0 g0 rfl rfl qw_484 qw_485 qw_486 qw_5 qw_487 ⟨rfl, by decide +kernel, by decide +kernel, by decide +kernel⟩ ⟨Nat.le_of_ble_eq_true rfl, Nat.le_of_ble_eq_true rfl⟩ hl rfl rfl (Nat.le_of_ble_eq_true rfl) dX13_round_37 ⟨Nat.le_of_ble_eq_true rfl, Nat.le_of_ble_eq_true rfl⟩ (fun z47813 F H locs hT hz47813 => ?_)
    obtain ⟨hz47813, yz47813⟩ := hz47813
    have pf0 := (yz47813.1 _ 3 (Or.inr (by decide)) (Or.inr (by decide))).trans pf0
    have v47809 := (yz47813.1 _ 0 (Or.inr (by decide)) (Or.inr (by decide))).trans v47809
    have hfr : (∀ b j : Nat, (tag b ≠ 46 ∨ j ≠ 0) → (tag b ≠ 46 ∨ j ≠ 1) → (tag b ≠ 46 ∨ j ≠ 2) → fld F b j = fld Fo b j) ∧ (∀ b j : Nat, elm F b j = elm Fo b j) := ⟨fun b j n46_0 n46_1 n46_2 => (yz47813.1 b j n46_1 n46_2).trans (hfr.1 b j n46_0 n46_1 n46_2), fun b j  => (yz47813.2 b j ).trans (hfr.2 b j )⟩
    exact t_iret hQ X hT (⟨rg_all _, hfr⟩) (Nat.le_of_ble_eq_true rfl) (Nat.le_of_ble_eq_true rfl) dX13_round_40
  · have w47814 := cv_ne (rfl : z47810.toInt = z47810.toInt) (by decide : (0 : Int32).toInt = 0) c47811
    have w47815 := (fun h => (iz47810 h).1) (by omega)
    have w47816 := (fun h => (iz47810 h).2) (by omega)
    refine lv_iload_n hx hb dX13_round_14 rfl (lv_at hl 2 rfl) ?_
    refine lv_iconst (v := 1) hx hb dX13_round_15 (by decide) ?_
    refine lv_icmp_le (tgt := 35) hx hb dX13_round_16 (by decide) (fun c47817 => ?_) (fun c47817 => ?_)
    · have w47818 := cv_le (rfl : p2.toInt = p2.toInt) (by decide : (1 : Int32).toInt = 1) c47817
      refine lv_aload_n hx hb dX13_round_35 rfl (lv_at hl 0 rfl) ?_
      refine lv_iconst (v := 1) hx hb dX13_round_36 (by decide) ?_
      refine t_cVi (n := 1) (C := RX13) (T := TX13) (N := 37) (As := [.int 1]) (rest := []) X hT (km88_X13_refused l G tag L F hT.2.2.2 p0 1 m0 g0) m0 g0 rfl rfl qw_484 qw_485 qw_486 qw_5 qw_487 ⟨rfl, by decide +kernel, by decide +kernel, by decide +kernel⟩ ⟨Nat.le_of_ble_eq_true rfl, Nat.le_of_ble_eq_true rfl⟩ hl rfl rfl (Nat.le_of_ble_eq_true rfl) dX13_round_37 ⟨Nat.le_of_ble_eq_true rfl, Nat.le_of_ble_eq_true rfl⟩ (fun z47819 F H locs hT hz47819 => ?_)
      obtain ⟨hz47819, yz47819⟩ := hz47819
      have pf0 := (yz47819.1 _ 3 (Or.inr (by decide)) (Or.inr (by decide))).trans pf0
      have v47809 := (yz47819.1 _ 0 (Or.inr (by decide)) (Or.inr (by decide))).trans v47809
      have hfr : (∀ b j : Nat, (tag b ≠ 46 ∨ j ≠ 0) → (tag b ≠ 46 ∨ j ≠ 1) → (tag b ≠ 46 ∨ j ≠ 2) → fld F b j = fld Fo b j) ∧ (∀ b j : Nat, elm F b j = elm Fo b j) := ⟨fun b j n46_0 n46_1 n46_2 => (yz47819.1 b j n46_1 n46_2).trans (hfr.1 b j n46_0 n46_1 n46_2), fun b j  => (yz47819.2 b j ).trans (hfr.2 b j )⟩
      exact t_iret hQ X hT (⟨rg_all _, hfr⟩) (Nat.le_of_ble_eq_true rfl) (Nat.le_of_ble_eq_true rfl) dX13_round_40
    · have w47820 := cv_nle (rfl : p2.toInt = p2.toInt) (by decide : (1 : Int32).toInt = 1) c47817
      refine lv_aload_n hx hb dX13_round_19 rfl (lv_at hl 0 rfl) ?_
      refine lv_aload_n hx hb dX13_round_20 rfl (lv_at hl 0 rfl) ?_
      refine t_get (C := RX13) (T := TX13) (N := 37) X hT m0 g0 rfl rfl 16 (by decide) qw_112 inlX13 rfl dX13_round_21 (fun v47821 hv47821 ov47821 => ?_)
      obtain ⟨b47822, rfl, mb47822, gb47822⟩ := okV_r ov47821
      have gb47822 : tag b47822 = 37 := tg_of gb47822
      refine lv_iload_n hx hb dX13_round_24 rfl (lv_at hl 1 rfl) ?_
      refine lv_iload_n hx hb dX13_round_25 rfl (lv_at hl 2 rfl) ?_
      refine t_cSi (n := 3) (As := [.ref b47822, .int p1, .int p2]) (rest := [.ref p0]) X hT (km155_X13_roundIn l G tag L F hT.2.2.2 b47822 p1 p2 mb47822 gb47822 (by omega) (by omega)) qw_1005 qw_1006 qw_5 qw_1007 ⟨by decide +kernel, by decide +kernel, by decide +kernel⟩ ⟨Nat.le_of_ble_eq_true rfl, Nat.le_of_ble_eq_true rfl⟩ hl rfl rfl (Nat.le_of_ble_eq_true rfl) dX13_round_26 ⟨Nat.le_of_ble_eq_true rfl, Nat.le_of_ble_eq_true rfl⟩ (fun z47823 F9 H locs hT hz47823 => ?_)
      obtain ⟨fz47823, hz47823⟩ := hz47823
      rw [fz47823] at hT
      refine t_cVi (n := 1) (C := RX13) (T := TX13) (N := 37) (As := [.int z47823]) (rest := []) X hT (km93_X13_good l G tag L F hT.2.2.2 p0 z47823 m0 g0) m0 g0 rfl rfl qw_687 qw_688 qw_689 qw_5 qw_690 ⟨rfl, by decide +kernel, by decide +kernel, by decide +kernel⟩ ⟨Nat.le_of_ble_eq_true rfl, Nat.le_of_ble_eq_true rfl⟩ hl rfl rfl (Nat.le_of_ble_eq_true rfl) dX13_round_29 ⟨Nat.le_of_ble_eq_true rfl, Nat.le_of_ble_eq_true rfl⟩ (fun z47824 F H locs hT hz47824 => ?_)
      obtain ⟨hz47824, yz47824⟩ := hz47824
      have pf0 := (yz47824.1 _ 3 (Or.inr (by decide)) (Or.inr (by decide))).trans pf0
      have v47809 := (yz47824.1 _ 0 (Or.inr (by decide)) (Or.inr (by decide))).trans v47809
      have hv47821 := (yz47824.1 _ 16 (Or.inr (by decide)) (Or.inr (by decide))).trans hv47821
      have hfr : (∀ b j : Nat, (tag b ≠ 46 ∨ j ≠ 0) → (tag b ≠ 46 ∨ j ≠ 1) → (tag b ≠ 46 ∨ j ≠ 2) → fld F b j = fld Fo b j) ∧ (∀ b j : Nat, elm F b j = elm Fo b j) := ⟨fun b j n46_0 n46_1 n46_2 => (yz47824.1 b j n46_1 n46_2).trans (hfr.1 b j n46_0 n46_1 n46_2), fun b j  => (yz47824.2 b j ).trans (hfr.2 b j )⟩
      refine lv_goto (tgt := 40) hx hb dX13_round_32 (by decide) ?_
      exact t_iret hQ X hT (⟨rg_all _, hfr⟩) (Nat.le_of_ble_eq_true rfl) (Nat.le_of_ble_eq_true rfl) dX13_round_40
set_option maxHeartbeats 4000000 in
set_option maxRecDepth 100000 in
theorem km172_X13_round (l : Launch) (G : KG) (tag : Nat → Nat) (L : List Nat) (Fo : Nat → va_E) (ho : okT G ttC tag L Fo) (p0 : Nat) (p1 : Int32) (p2 : Int32) (m0 : p0 ∈ L) (g0 : tag p0 = 46) (pf0 : fld Fo p0 3 = .null) : TMi l yX13_round cX13_round 3 (some .int) { frames := 3, cells := 0, slots := 0, locals := 66 } G ttC tag L Fo [.ref p0, .int p1, .int p2] (fun r F1 => ((-2147483648) ≤ r.toInt ∧ r.toInt ≤ 2147483647) ∧ ((∀ b j : Nat, (tag b ≠ 46 ∨ j ≠ 0) → (tag b ≠ 46 ∨ j ≠ 1) → (tag b ≠ 46 ∨ j ≠ 2) → fld F1 b j = fld Fo b j) ∧ (∀ b j : Nat, elm F1 b j = elm Fo b j))) := by
  refine t_bodyi (y := yX13_round) (cd := cX13_round) (mL := 3) (rt := (some .int)) (rm := { frames := 3, cells := 0, slots := 0, locals := 66 }) (av := [.ref p0, .int p1, .int p2]) (by decide) (Nat.le_of_ble_eq_true rfl) ho ?_
  intro p e s m args below meth c ls A Q hQ X hT hl
  have hx := X.1.1
  have hb := X.1.2.1
  have hl : lv_has ls 3 [(0, .ref p0), (1, .int p1), (2, .int p2)] := hl
  have rp1 := rg_all p1
  have rp2 := rg_all p2
  obtain ⟨F, hFo⟩ : ∃ F : Nat → va_E, F = Fo := ⟨_, rfl⟩
  rw [← hFo] at hT pf0
  have hfr : (∀ b j : Nat, (tag b ≠ 46 ∨ j ≠ 0) → (tag b ≠ 46 ∨ j ≠ 1) → (tag b ≠ 46 ∨ j ≠ 2) → fld F b j = fld Fo b j) ∧ (∀ b j : Nat, elm F b j = elm Fo b j) := by
    rw [hFo]
    exact ⟨by intros; rfl, by intros; rfl⟩
  refine lv_aload_n hx hb dX13_round_0 rfl (lv_at hl 0 rfl) ?_
  refine lv_iconst (v := 0) hx hb dX13_round_1 (by decide) ?_
  refine t_put (C := RX13) (T := TX13) (N := 37) (v := .int 0) X hT m0 g0 rfl tyX13 tyX13_ok nmX13 rfl 0 (by decide) qw_140 inlX13 rfl (by first | rfl | decide) (by first | rfl | decide) rfl (⟨_, rfl, (show (-2147483648) ≤ (0 : Int32).toInt from (by decide)), (show (0 : Int32).toInt ≤ 2147483647 from (by decide))⟩) dX13_round_2 (fun F H locs hT v47891 h1v47891 h2v47891 => ?_)
  have pf0 := (h1v47891 _ _ (Or.inr (by decide))).trans pf0
  have hfr : (∀ b j : Nat, (tag b ≠ 46 ∨ j ≠ 0) → (tag b ≠ 46 ∨ j ≠ 1) → (tag b ≠ 46 ∨ j ≠ 2) → fld F b j = fld Fo b j) ∧ (∀ b j : Nat, elm F b j = elm Fo b j) := ⟨fun b j n46_0 n46_1 n46_2 => (h1v47891 b j (fr_ne g0 n46_0)).trans (hfr.1 b j n46_0 n46_1 n46_2), fun b j  => (h2v47891 b j).trans (hfr.2 b j )⟩
  refine lv_aload_n hx hb dX13_round_5 rfl (lv_at hl 0 rfl) ?_
  refine lv_iload_n hx hb dX13_round_6 rfl (lv_at hl 1 rfl) ?_
  refine lv_iload_n hx hb dX13_round_7 rfl (lv_at hl 2 rfl) ?_
  refine t_cVi (n := 2) (C := RX13) (T := TX13) (N := 37) (As := [.int p1, .int p2]) (rest := []) X hT (km121_X13_isSkin l G tag L F hT.2.2.2 p0 p1 p2 m0 g0 pf0) m0 g0 rfl rfl qw_836 qw_837 qw_838 qw_5 qw_839 ⟨rfl, by decide +kernel, by decide +kernel, by decide +kernel⟩ ⟨Nat.le_of_ble_eq_true rfl, Nat.le_of_ble_eq_true rfl⟩ hl rfl rfl (Nat.le_of_ble_eq_true rfl) dX13_round_8 ⟨Nat.le_of_ble_eq_true rfl, Nat.le_of_ble_eq_true rfl⟩ (fun z47892 F9 H locs hT hz47892 => ?_)
  obtain ⟨fz47892, hz47892⟩ := hz47892
  rw [fz47892] at hT
  refine lv_if_eq (tgt := 35) hx hb dX13_round_11 (by decide) (fun c47893 => ?_) (fun c47893 => ?_)
  · have w47894 := cv_eq (rfl : z47892.toInt = z47892.toInt) (by decide : (0 : Int32).toInt = 0) c47893
    refine lv_aload_n hx hb dX13_round_35 rfl (lv_at hl 0 rfl) ?_
    refine lv_iconst (v := 1) hx hb dX13_round_36 (by decide) ?_
    refine t_cVi (n := 1) (C := RX13) (T := TX13) (N := 37) (As := [.int 1]) (rest := []) X hT (km88_X13_refused l G tag L F hT.2.2.2 p0 1 m0 g0) m0 g0 rfl rfl qw_484 qw_485 qw_486 qw_5 qw_487 ⟨rfl, by decide +kernel, by decide +kernel, by decide +kernel⟩ ⟨Nat.le_of_ble_eq_true rfl, Nat.le_of_ble_eq_true rfl⟩ hl rfl rfl (Nat.le_of_ble_eq_true rfl) dX13_round_37 ⟨Nat.le_of_ble_eq_true rfl, Nat.le_of_ble_eq_true rfl⟩ (fun z47895 F H locs hT hz47895 => ?_)
    obtain ⟨hz47895, yz47895⟩ := hz47895
    have pf0 := (yz47895.1 _ 3 (Or.inr (by decide)) (Or.inr (by decide))).trans pf0
    have v47891 := (yz47895.1 _ 0 (Or.inr (by decide)) (Or.inr (by decide))).trans v47891
    have hfr : (∀ b j : Nat, (tag b ≠ 46 ∨ j ≠ 0) → (tag b ≠ 46 ∨ j ≠ 1) → (tag b ≠ 46 ∨ j ≠ 2) → fld F b j = fld Fo b j) ∧ (∀ b j : Nat, elm F b j = elm Fo b j) := ⟨fun b j n46_0 n46_1 n46_2 => (yz47895.1 b j n46_1 n46_2).trans (hfr.1 b j n46_0 n46_1 n46_2), fun b j  => (yz47895.2 b j ).trans (hfr.2 b j )⟩
    exact t_iret hQ X hT (⟨rg_all _, hfr⟩) (Nat.le_of_ble_eq_true rfl) (Nat.le_of_ble_eq_true rfl) dX13_round_40
  · have w47896 := cv_ne (rfl : z47892.toInt = z47892.toInt) (by decide : (0 : Int32).toInt = 0) c47893
    exfalso
    omega
theorem kp_X13_round (l : Launch) (G : KG) (tag : Nat → Nat) (L : List Nat) (Fo : Nat → va_E) (ho : okT G ttC tag L Fo) (p0 : Nat) (p1 : Int32) (p2 : Int32) (m0 : p0 ∈ L) (g0 : tag p0 = 46) : TMi l yX13_round cX13_round 3 (some .int) { frames := 3, cells := 0, slots := 0, locals := 66 } G ttC tag L Fo [.ref p0, .int p1, .int p2] (fun r F1 => ((-2147483648) ≤ r.toInt ∧ r.toInt ≤ 2147483647) ∧ ((∀ b j : Nat, (tag b ≠ 46 ∨ j ≠ 0) → (tag b ≠ 46 ∨ j ≠ 1) → (tag b ≠ 46 ∨ j ≠ 2) → fld F1 b j = fld Fo b j) ∧ (∀ b j : Nat, elm F1 b j = elm Fo b j))) := by
  rcases t_fldn ho m0 g0 rfl 3 rfl with h9 | ⟨b9, h9, m9, t9⟩
  · exact km172_X13_round l G tag L Fo ho p0 p1 p2  m0 g0 h9 
  · exact km171_X13_round l G tag L Fo ho p0 p1 p2 b9  m0 g0 m9 (tg_of t9) h9 
set_option maxHeartbeats 4000000 in
set_option maxRecDepth 100000 in
theorem km174_X13_refusesIn (l : Launch) (G : KG) (tag : Nat → Nat) (L : List Nat) (F : Nat → va_E) (ho : okT G ttC tag L F) (p0 : Nat) (p1 : Int32) (p2 : Int32) (p3 : Int32) (x0 : Nat) (m0 : p0 ∈ L) (g0 : tag p0 = 46) (h1 : 0 ≤ p1.toInt ∧ p1.toInt ≤ 0) (mx0 : x0 ∈ L) (gx0 : tag x0 = 45) (pf0 : fld F p0 3 = .ref x0) : TMi l yX13_refusesIn cX13_refusesIn 4 (some .int) { frames := 0, cells := 0, slots := 0, locals := 0 } G ttC tag L F [.ref p0, .int p1, .int p2, .int p3] (fun r F1 => F1 = F ∧ (1 ≤ r.toInt ∧ r.toInt ≤ 1) ∧ (r.toInt = 0 → 0 ≤ p2.toInt ∧ p2.toInt ≤ p3.toInt)) := by
  refine t_bodyi (y := yX13_refusesIn) (cd := cX13_refusesIn) (mL := 4) (rt := (some .int)) (rm := { frames := 0, cells := 0, slots := 0, locals := 0 }) (av := [.ref p0, .int p1, .int p2, .int p3]) (by decide) (Nat.le_of_ble_eq_true rfl) ho ?_
  intro p e s m args below meth c ls A Q hQ X hT hl
  have hx := X.1.1
  have hb := X.1.2.1
  have hl : lv_has ls 4 [(0, .ref p0), (1, .int p1), (2, .int p2), (3, .int p3)] := hl
  have rp2 := rg_all p2
  have rp3 := rg_all p3
  refine lv_aload_n hx hb dX13_refusesIn_0 rfl (lv_at hl 0 rfl) ?_
  refine t_get (C := RX13) (T := TX13) (N := 37) X hT m0 g0 rfl rfl 3 (by decide) qw_481 inlX13 rfl dX13_refusesIn_1 (fun v47945 hv47945 ov47945 => ?_)
  obtain rfl : v47945 = .ref x0 := hv47945.symm.trans pf0
  refine lv_ifnull hx hb dX13_refusesIn_4 ?_
  refine lv_iload_n hx hb dX13_refusesIn_7 rfl (lv_at hl 1 rfl) ?_
  refine lv_if_ne (tgt := 15) hx hb dX13_refusesIn_8 (by decide) (fun c47946 => ?_) (fun c47946 => ?_)
  · have w47947 := cv_ne (rfl : p1.toInt = p1.toInt) (by decide : (0 : Int32).toInt = 0) c47946
    exfalso
    omega
  · have w47948 := cv_eq (rfl : p1.toInt = p1.toInt) (by decide : (0 : Int32).toInt = 0) c47946
    refine lv_iconst (v := 1) hx hb dX13_refusesIn_11 (by decide) ?_
    refine lv_goto (tgt := 29) hx hb dX13_refusesIn_12 (by decide) ?_
    have k47949 : (1 : Int32).toInt = 1 := by decide
    exact t_iret hQ X hT (⟨rfl, (by decide), (by omega)⟩) (Nat.le_of_ble_eq_true rfl) (Nat.le_of_ble_eq_true rfl) dX13_refusesIn_29
set_option maxHeartbeats 4000000 in
set_option maxRecDepth 100000 in
theorem km175_X13_refusesIn (l : Launch) (G : KG) (tag : Nat → Nat) (L : List Nat) (F : Nat → va_E) (ho : okT G ttC tag L F) (p0 : Nat) (p1 : Int32) (p2 : Int32) (p3 : Int32) (x0 : Nat) (m0 : p0 ∈ L) (g0 : tag p0 = 46) (h1 : 1 ≤ p1.toInt ∧ p1.toInt ≤ 1) (mx0 : x0 ∈ L) (gx0 : tag x0 = 45) (pf0 : fld F p0 3 = .ref x0) : TMi l yX13_refusesIn cX13_refusesIn 4 (some .int) { frames := 1, cells := 0, slots := 0, locals := 22 } G ttC tag L F [.ref p0, .int p1, .int p2, .int p3] (fun r F1 => F1 = F ∧ (0 ≤ r.toInt ∧ r.toInt ≤ 2) ∧ (r.toInt = 0 → 0 ≤ p2.toInt ∧ p2.toInt ≤ p3.toInt)) := by
  refine t_bodyi (y := yX13_refusesIn) (cd := cX13_refusesIn) (mL := 4) (rt := (some .int)) (rm := { frames := 1, cells := 0, slots := 0, locals := 22 }) (av := [.ref p0, .int p1, .int p2, .int p3]) (by decide) (Nat.le_of_ble_eq_true rfl) ho ?_
  intro p e s m args below meth c ls A Q hQ X hT hl
  have hx := X.1.1
  have hb := X.1.2.1
  have hl : lv_has ls 4 [(0, .ref p0), (1, .int p1), (2, .int p2), (3, .int p3)] := hl
  have rp2 := rg_all p2
  have rp3 := rg_all p3
  refine lv_aload_n hx hb dX13_refusesIn_0 rfl (lv_at hl 0 rfl) ?_
  refine t_get (C := RX13) (T := TX13) (N := 37) X hT m0 g0 rfl rfl 3 (by decide) qw_481 inlX13 rfl dX13_refusesIn_1 (fun v48083 hv48083 ov48083 => ?_)
  obtain rfl : v48083 = .ref x0 := hv48083.symm.trans pf0
  refine lv_ifnull hx hb dX13_refusesIn_4 ?_
  refine lv_iload_n hx hb dX13_refusesIn_7 rfl (lv_at hl 1 rfl) ?_
  refine lv_if_ne (tgt := 15) hx hb dX13_refusesIn_8 (by decide) (fun c48084 => ?_) (fun c48084 => ?_)
  · have w48085 := cv_ne (rfl : p1.toInt = p1.toInt) (by decide : (0 : Int32).toInt = 0) c48084
    refine lv_iload_n hx hb dX13_refusesIn_15 rfl (lv_at hl 2 rfl) ?_
    refine lv_iconst (v := 0) hx hb dX13_refusesIn_16 (by decide) ?_
    refine lv_iload_n hx hb dX13_refusesIn_17 rfl (lv_at hl 3 rfl) ?_
    refine t_cSi (n := 3) (As := [.int p2, .int 0, .int p3]) (rest := []) X hT (km19_X13_within l G tag L F hT.2.2.2 p2 0 p3 ) qw_568 qw_569 qw_5 qw_570 ⟨by decide +kernel, by decide +kernel, by decide +kernel⟩ ⟨Nat.le_of_ble_eq_true rfl, Nat.le_of_ble_eq_true rfl⟩ hl rfl rfl (Nat.le_of_ble_eq_true rfl) dX13_refusesIn_18 ⟨Nat.le_of_ble_eq_true rfl, Nat.le_of_ble_eq_true rfl⟩ (fun z48086 F9 H locs hT hz48086 => ?_)
    obtain ⟨fz48086, hz48086, xz48086_0⟩ := hz48086
    rw [fz48086] at hT
    have k48087 : (0 : Int32).toInt = 0 := by decide
    refine lv_if_eq (tgt := 28) hx hb dX13_refusesIn_21 (by decide) (fun c48088 => ?_) (fun c48088 => ?_)
    · have w48089 := cv_eq (rfl : z48086.toInt = z48086.toInt) (by decide : (0 : Int32).toInt = 0) c48088
      refine lv_iconst (v := 2) hx hb dX13_refusesIn_28 (by decide) ?_
      have k48090 : (2 : Int32).toInt = 2 := by decide
      exact t_iret hQ X hT (⟨rfl, (by decide), (by omega)⟩) (Nat.le_of_ble_eq_true rfl) (Nat.le_of_ble_eq_true rfl) dX13_refusesIn_29
    · have w48091 := cv_ne (rfl : z48086.toInt = z48086.toInt) (by decide : (0 : Int32).toInt = 0) c48088
      have w48092 := xz48086_0 (by omega)
      refine lv_iconst (v := 0) hx hb dX13_refusesIn_24 (by decide) ?_
      refine lv_goto (tgt := 29) hx hb dX13_refusesIn_25 (by decide) ?_
      have k48093 : (0 : Int32).toInt = 0 := by decide
      exact t_iret hQ X hT (⟨rfl, (by decide), (by omega)⟩) (Nat.le_of_ble_eq_true rfl) (Nat.le_of_ble_eq_true rfl) dX13_refusesIn_29
  · have w48094 := cv_eq (rfl : p1.toInt = p1.toInt) (by decide : (0 : Int32).toInt = 0) c48084
    exfalso
    omega
set_option maxHeartbeats 4000000 in
set_option maxRecDepth 100000 in
theorem km176_X13_copies (l : Launch) (G : KG) (tag : Nat → Nat) (L : List Nat) (Fo : Nat → va_E) (ho : okT G ttC tag L Fo) (p0 : Nat) (m0 : p0 ∈ L) (g0 : tag p0 = 46) : TMv l yX13_copies cX13_copies 2 { frames := 0, cells := 0, slots := 0, locals := 0 } G ttC tag L Fo [.ref p0] (fun F1 => ((∀ b j : Nat, fld F1 b j = fld Fo b j) ∧ (∀ b j : Nat, tag b ≠ 37 → elm F1 b j = elm Fo b j))) := by
  refine t_bodyv (y := yX13_copies) (cd := cX13_copies) (mL := 2) (rm := { frames := 0, cells := 0, slots := 0, locals := 0 }) (av := [.ref p0]) (by decide) (Nat.le_of_ble_eq_true rfl) ho ?_
  intro p e s m args below meth c ls A Q hQ X hT hl
  have hx := X.1.1
  have hb := X.1.2.1
  have hl : lv_has ls 2 [(0, .ref p0)] := hl
  obtain ⟨F, hFo⟩ : ∃ F : Nat → va_E, F = Fo := ⟨_, rfl⟩
  rw [← hFo] at hT
  have hfr : (∀ b j : Nat, fld F b j = fld Fo b j) ∧ (∀ b j : Nat, tag b ≠ 37 → elm F b j = elm Fo b j) := by
    rw [hFo]
    exact ⟨by intros; rfl, by intros; rfl⟩
  have K2 : ∀ (n : Nat) (z48511 : Int32) (F : Nat → va_E) (H : Heap) (locs : List Loc) (ls : Array Slot), (212 - z48511.toInt < (n : Int)) → (0 ≤ z48511.toInt ∧ z48511.toInt ≤ 212) → TH G ttC A s tag L F H locs → ((∀ b j : Nat, fld F b j = fld Fo b j) ∧ (∀ b j : Nat, tag b ≠ 37 → elm F b j = elm Fo b j)) → lv_has ls 2 [(0, .ref p0), (1, .int z48511)] → W p l e { frames := 0, cells := 0, slots := 0, locals := 0 } s m args below meth c H locs 0 0 Q (F0 m 2 ls []) := by
    intro n
    induction n with
    | zero =>
      intro z48511 F H locs ls hn rz48511 hT hfr hl
      exfalso
      omega
    | succ n ih2 =>
      intro z48511 F H locs ls hn rz48511 hT hfr hl
      refine lv_iload_n hx hb dX13_copies_2 rfl (lv_at hl 1 rfl) ?_
      refine lv_sipush (v := 212) hx hb dX13_copies_3 (by decide) ?_
      refine lv_icmp_ge (tgt := 27) hx hb dX13_copies_6 (by decide) (fun c48512 => ?_) (fun c48512 => ?_)
      · have w48513 := cv_le (by decide : (212 : Int32).toInt = 212) (rfl : z48511.toInt = z48511.toInt) c48512
        exact t_vret hQ X hT hfr (Nat.le_of_ble_eq_true rfl) (Nat.le_of_ble_eq_true rfl) dX13_copies_27
      · have w48514 := cv_nle (by decide : (212 : Int32).toInt = 212) (rfl : z48511.toInt = z48511.toInt) c48512
        refine lv_aload_n hx hb dX13_copies_9 rfl (lv_at hl 0 rfl) ?_
        refine t_get (C := RX13) (T := TX13) (N := 37) X hT m0 g0 rfl rfl 17 (by decide) qw_113 inlX13 rfl dX13_copies_10 (fun v48515 hv48515 ov48515 => ?_)
        obtain ⟨b48516, rfl, mb48516, gb48516⟩ := okV_r ov48515
        have gb48516 : tag b48516 = 37 := tg_of gb48516
        refine lv_iload_n hx hb dX13_copies_13 rfl (lv_at hl 1 rfl) ?_
        refine lv_aload_n hx hb dX13_copies_14 rfl (lv_at hl 0 rfl) ?_
        refine t_get (C := RX13) (T := TX13) (N := 37) X hT m0 g0 rfl rfl 16 (by decide) qw_112 inlX13 rfl dX13_copies_15 (fun v48517 hv48517 ov48517 => ?_)
        obtain ⟨b48518, rfl, mb48518, gb48518⟩ := okV_r ov48517
        have gb48518 : tag b48518 = 37 := tg_of gb48518
        refine lv_iload_n hx hb dX13_copies_18 rfl (lv_at hl 1 rfl) ?_
        refine t_ild X hT mb48518 gb48518 rfl (by omega) dX13_copies_19 (fun z48519 vz48519 rz48519 => ?_)
        have oz48519 := rz48519
        have rz48519 := rg_all z48519
        refine t_ist X hT mb48516 gb48516 rfl (by omega) (oz48519) dX13_copies_20 (fun F H locs hT v48520 h1v48520 h2v48520 => ?_)
        have hv48515 := (h2v48520 _ _).trans hv48515
        have hv48517 := (h2v48520 _ _).trans hv48517
        have hfr : (∀ b j : Nat, fld F b j = fld Fo b j) ∧ (∀ b j : Nat, tag b ≠ 37 → elm F b j = elm Fo b j) := ⟨fun b j  => (h2v48520 b j).trans (hfr.1 b j ), fun b j a37 => (h1v48520 b j (Or.inl (at_ne gb48516 a37))).trans (hfr.2 b j a37)⟩
        obtain ⟨z48521, ez48521⟩ : ∃ y : Int32, y = z48511 + 1 := ⟨_, rfl⟩
        have hz48521 : z48521.toInt = z48511.toInt + 1 := ar_add ez48521 rfl (by decide : (1 : Int32).toInt = 1) (by omega) (by omega)
        refine lv_iinc (v := z48521) (lv' := [(1, .int z48521), (0, .ref p0)]) hx hb dX13_copies_21 hl (k := 1) rfl (by rw [ez48521]; rfl) (by decide) rfl (fun ls hl => ?_)
        refine lv_goto (tgt := 2) hx hb dX13_copies_24 (by decide) ?_
        exact ih2 z48521 _ _ _ _ (by omega) (by omega) hT hfr  (lv_sub hl [1, 0] rfl)
  refine lv_iconst (v := 0) hx hb dX13_copies_0 (by decide) ?_
  refine lv_istore_n (lv' := [(1, .int 0), (0, .ref p0)]) hx hb dX13_copies_1 rfl hl (by decide) rfl (fun ls hl => ?_)
  have k48522 : (0 : Int32).toInt = 0 := by decide
  exact K2 213 0 _ _ _ _ (by omega) (by decide) hT hfr  (lv_sub hl [1, 0] rfl)
set_option maxHeartbeats 4000000 in
set_option maxRecDepth 100000 in
theorem km177_X13_byNumbers (l : Launch) (G : KG) (tag : Nat → Nat) (L : List Nat) (Fo : Nat → va_E) (ho : okT G ttC tag L Fo) (p0 : Nat) (x0 : Nat) (m0 : p0 ∈ L) (g0 : tag p0 = 46) (mx0 : x0 ∈ L) (gx0 : tag x0 = 40) (pf0 : fld Fo p0 24 = .ref x0) : TMv l yX13_byNumbers cX13_byNumbers 2 { frames := 0, cells := 0, slots := 0, locals := 0 } G ttC tag L Fo [.ref p0] (fun F1 => ((∀ b j : Nat, fld F1 b j = fld Fo b j) ∧ (∀ b j : Nat, tag b ≠ 40 → elm F1 b j = elm Fo b j)) ∧ (∃ lx : Int, CAR F1 x0 4 lx)) := by
  refine t_bodyv (y := yX13_byNumbers) (cd := cX13_byNumbers) (mL := 2) (rm := { frames := 0, cells := 0, slots := 0, locals := 0 }) (av := [.ref p0]) (by decide) (Nat.le_of_ble_eq_true rfl) ho ?_
  intro p e s m args below meth c ls A Q hQ X hT hl
  have hx := X.1.1
  have hb := X.1.2.1
  have hl : lv_has ls 2 [(0, .ref p0)] := hl
  obtain ⟨F, hFo⟩ : ∃ F : Nat → va_E, F = Fo := ⟨_, rfl⟩
  rw [← hFo] at hT pf0
  have hfr : (∀ b j : Nat, fld F b j = fld Fo b j) ∧ (∀ b j : Nat, tag b ≠ 40 → elm F b j = elm Fo b j) := by
    rw [hFo]
    exact ⟨by intros; rfl, by intros; rfl⟩
  refine lv_iconst (v := 0) hx hb dX13_byNumbers_0 (by decide) ?_
  refine lv_istore_n (lv' := [(1, .int 0), (0, .ref p0)]) hx hb dX13_byNumbers_1 rfl hl (by decide) rfl (fun ls hl => ?_)
  refine lv_iload_n hx hb dX13_byNumbers_2 rfl (lv_at hl 0 rfl) ?_
  refine lv_iconst (v := 4) hx hb dX13_byNumbers_3 (by decide) ?_
  refine lv_icmp_ge (tgt := 20) hx hb dX13_byNumbers_4 (by decide) (fun c9 => absurd c9 (by decide)) (fun _ => ?_)
  refine lv_aload_n hx hb dX13_byNumbers_7 rfl (lv_at hl 1 rfl) ?_
  refine t_get (C := RX13) (T := TX13) (N := 37) X hT m0 g0 rfl rfl 24 (by decide) qw_116 inlX13 rfl dX13_byNumbers_8 (fun v48744 hv48744 ov48744 => ?_)
  obtain rfl : v48744 = .ref x0 := hv48744.symm.trans pf0
  refine lv_iload_n hx hb dX13_byNumbers_11 rfl (lv_at hl 0 rfl) ?_
  refine lv_iload_n hx hb dX13_byNumbers_12 rfl (lv_at hl 0 rfl) ?_
  refine t_ist X hT mx0 gx0 rfl (by decide) (show 0 ≤ (0 : Int32).toInt ∧ (0 : Int32).toInt ≤ 3 from (by decide)) dX13_byNumbers_13 (fun F H locs hT v48745 h1v48745 h2v48745 => ?_)
  have pf0 := (h2v48745 _ _).trans pf0
  have hfr : (∀ b j : Nat, fld F b j = fld Fo b j) ∧ (∀ b j : Nat, tag b ≠ 40 → elm F b j = elm Fo b j) := ⟨fun b j  => (h2v48745 b j).trans (hfr.1 b j ), fun b j a40 => (h1v48745 b j (Or.inl (at_ne gx0 a40))).trans (hfr.2 b j a40)⟩
  refine lv_iinc (v := 1) (lv' := [(1, .int 1), (0, .ref p0)]) hx hb dX13_byNumbers_14 hl (k := 0) rfl (by decide) (by decide) rfl (fun ls hl => ?_)
  refine lv_goto (tgt := 2) hx hb dX13_byNumbers_17 (by decide) ?_
  refine lv_iload_n hx hb dX13_byNumbers_2 rfl (lv_at hl 0 rfl) ?_
  refine lv_iconst (v := 4) hx hb dX13_byNumbers_3 (by decide) ?_
  refine lv_icmp_ge (tgt := 20) hx hb dX13_byNumbers_4 (by decide) (fun c9 => absurd c9 (by decide)) (fun _ => ?_)
  refine lv_aload_n hx hb dX13_byNumbers_7 rfl (lv_at hl 1 rfl) ?_
  refine t_get (C := RX13) (T := TX13) (N := 37) X hT m0 g0 rfl rfl 24 (by decide) qw_116 inlX13 rfl dX13_byNumbers_8 (fun v48746 hv48746 ov48746 => ?_)
  obtain rfl : v48746 = .ref x0 := hv48746.symm.trans pf0
  refine lv_iload_n hx hb dX13_byNumbers_11 rfl (lv_at hl 0 rfl) ?_
  refine lv_iload_n hx hb dX13_byNumbers_12 rfl (lv_at hl 0 rfl) ?_
  refine t_ist X hT mx0 gx0 rfl (by decide) (show 0 ≤ (1 : Int32).toInt ∧ (1 : Int32).toInt ≤ 3 from (by decide)) dX13_byNumbers_13 (fun F H locs hT v48747 h1v48747 h2v48747 => ?_)
  have pf0 := (h2v48747 _ _).trans pf0
  have k48748 : (1 : Int32).toInt = 1 := by decide
  have k48749 : (0 : Int32).toInt = 0 := by decide
  have v48745 := (h1v48747 _ _ (Or.inr (ine (by omega) (by omega) (by omega)))).trans v48745
  have hfr : (∀ b j : Nat, fld F b j = fld Fo b j) ∧ (∀ b j : Nat, tag b ≠ 40 → elm F b j = elm Fo b j) := ⟨fun b j  => (h2v48747 b j).trans (hfr.1 b j ), fun b j a40 => (h1v48747 b j (Or.inl (at_ne gx0 a40))).trans (hfr.2 b j a40)⟩
  refine lv_iinc (v := 2) (lv' := [(1, .int 2), (0, .ref p0)]) hx hb dX13_byNumbers_14 hl (k := 0) rfl (by decide) (by decide) rfl (fun ls hl => ?_)
  refine lv_goto (tgt := 2) hx hb dX13_byNumbers_17 (by decide) ?_
  refine lv_iload_n hx hb dX13_byNumbers_2 rfl (lv_at hl 0 rfl) ?_
  refine lv_iconst (v := 4) hx hb dX13_byNumbers_3 (by decide) ?_
  refine lv_icmp_ge (tgt := 20) hx hb dX13_byNumbers_4 (by decide) (fun c9 => absurd c9 (by decide)) (fun _ => ?_)
  refine lv_aload_n hx hb dX13_byNumbers_7 rfl (lv_at hl 1 rfl) ?_
  refine t_get (C := RX13) (T := TX13) (N := 37) X hT m0 g0 rfl rfl 24 (by decide) qw_116 inlX13 rfl dX13_byNumbers_8 (fun v48750 hv48750 ov48750 => ?_)
  obtain rfl : v48750 = .ref x0 := hv48750.symm.trans pf0
  refine lv_iload_n hx hb dX13_byNumbers_11 rfl (lv_at hl 0 rfl) ?_
  refine lv_iload_n hx hb dX13_byNumbers_12 rfl (lv_at hl 0 rfl) ?_
  refine t_ist X hT mx0 gx0 rfl (by decide) (show 0 ≤ (2 : Int32).toInt ∧ (2 : Int32).toInt ≤ 3 from (by decide)) dX13_byNumbers_13 (fun F H locs hT v48751 h1v48751 h2v48751 => ?_)
  have pf0 := (h2v48751 _ _).trans pf0
  have k48752 : (2 : Int32).toInt = 2 := by decide
  have k48753 : (0 : Int32).toInt = 0 := by decide
  have v48745 := (h1v48751 _ _ (Or.inr (ine (by omega) (by omega) (by omega)))).trans v48745
  have k48754 : (2 : Int32).toInt = 2 := by decide
  have k48755 : (1 : Int32).toInt = 1 := by decide
  have v48747 := (h1v48751 _ _ (Or.inr (ine (by omega) (by omega) (by omega)))).trans v48747
  have hfr : (∀ b j : Nat, fld F b j = fld Fo b j) ∧ (∀ b j : Nat, tag b ≠ 40 → elm F b j = elm Fo b j) := ⟨fun b j  => (h2v48751 b j).trans (hfr.1 b j ), fun b j a40 => (h1v48751 b j (Or.inl (at_ne gx0 a40))).trans (hfr.2 b j a40)⟩
  refine lv_iinc (v := 3) (lv' := [(1, .int 3), (0, .ref p0)]) hx hb dX13_byNumbers_14 hl (k := 0) rfl (by decide) (by decide) rfl (fun ls hl => ?_)
  refine lv_goto (tgt := 2) hx hb dX13_byNumbers_17 (by decide) ?_
  refine lv_iload_n hx hb dX13_byNumbers_2 rfl (lv_at hl 0 rfl) ?_
  refine lv_iconst (v := 4) hx hb dX13_byNumbers_3 (by decide) ?_
  refine lv_icmp_ge (tgt := 20) hx hb dX13_byNumbers_4 (by decide) (fun c9 => absurd c9 (by decide)) (fun _ => ?_)
  refine lv_aload_n hx hb dX13_byNumbers_7 rfl (lv_at hl 1 rfl) ?_
  refine t_get (C := RX13) (T := TX13) (N := 37) X hT m0 g0 rfl rfl 24 (by decide) qw_116 inlX13 rfl dX13_byNumbers_8 (fun v48756 hv48756 ov48756 => ?_)
  obtain rfl : v48756 = .ref x0 := hv48756.symm.trans pf0
  refine lv_iload_n hx hb dX13_byNumbers_11 rfl (lv_at hl 0 rfl) ?_
  refine lv_iload_n hx hb dX13_byNumbers_12 rfl (lv_at hl 0 rfl) ?_
  refine t_ist X hT mx0 gx0 rfl (by decide) (show 0 ≤ (3 : Int32).toInt ∧ (3 : Int32).toInt ≤ 3 from (by decide)) dX13_byNumbers_13 (fun F H locs hT v48757 h1v48757 h2v48757 => ?_)
  have pf0 := (h2v48757 _ _).trans pf0
  have k48758 : (3 : Int32).toInt = 3 := by decide
  have k48759 : (0 : Int32).toInt = 0 := by decide
  have v48745 := (h1v48757 _ _ (Or.inr (ine (by omega) (by omega) (by omega)))).trans v48745
  have k48760 : (3 : Int32).toInt = 3 := by decide
  have k48761 : (1 : Int32).toInt = 1 := by decide
  have v48747 := (h1v48757 _ _ (Or.inr (ine (by omega) (by omega) (by omega)))).trans v48747
  have k48762 : (3 : Int32).toInt = 3 := by decide
  have k48763 : (2 : Int32).toInt = 2 := by decide
  have v48751 := (h1v48757 _ _ (Or.inr (ine (by omega) (by omega) (by omega)))).trans v48751
  have hfr : (∀ b j : Nat, fld F b j = fld Fo b j) ∧ (∀ b j : Nat, tag b ≠ 40 → elm F b j = elm Fo b j) := ⟨fun b j  => (h2v48757 b j).trans (hfr.1 b j ), fun b j a40 => (h1v48757 b j (Or.inl (at_ne gx0 a40))).trans (hfr.2 b j a40)⟩
  refine lv_iinc (v := 4) (lv' := [(1, .int 4), (0, .ref p0)]) hx hb dX13_byNumbers_14 hl (k := 0) rfl (by decide) (by decide) rfl (fun ls hl => ?_)
  refine lv_goto (tgt := 2) hx hb dX13_byNumbers_17 (by decide) ?_
  refine lv_iload_n hx hb dX13_byNumbers_2 rfl (lv_at hl 0 rfl) ?_
  refine lv_iconst (v := 4) hx hb dX13_byNumbers_3 (by decide) ?_
  refine lv_icmp_ge (tgt := 20) hx hb dX13_byNumbers_4 (by decide) (fun _ => ?_) (fun c9 => absurd c9 (by decide))
  exact t_vret hQ X hT ⟨hfr, (car_4 v48745 v48747 v48751 v48757)⟩ (Nat.le_of_ble_eq_true rfl) (Nat.le_of_ble_eq_true rfl) dX13_byNumbers_20
set_option maxHeartbeats 4000000 in
set_option maxRecDepth 100000 in
theorem km178_X13_drawn (l : Launch) (G : KG) (tag : Nat → Nat) (L : List Nat) (Fo : Nat → va_E) (ho : okT G ttC tag L Fo) (p0 : Nat) (m0 : p0 ∈ L) (g0 : tag p0 = 37) : TMi l yX13_drawn cX13_drawn 1 (some .int) { frames := 0, cells := 0, slots := 0, locals := 0 } G ttC tag L Fo [.ref p0] (fun r F1 => ((-2147483648) ≤ r.toInt ∧ r.toInt ≤ 2147483647) ∧ ((∀ b j : Nat, fld F1 b j = fld Fo b j) ∧ (∀ b j : Nat, tag b ≠ 37 → elm F1 b j = elm Fo b j))) := by
  refine t_bodyi (y := yX13_drawn) (cd := cX13_drawn) (mL := 1) (rt := (some .int)) (rm := { frames := 0, cells := 0, slots := 0, locals := 0 }) (av := [.ref p0]) (by decide) (Nat.le_of_ble_eq_true rfl) ho ?_
  intro p e s m args below meth c ls A Q hQ X hT hl
  have hx := X.1.1
  have hb := X.1.2.1
  have hl : lv_has ls 1 [(0, .ref p0)] := hl
  obtain ⟨F, hFo⟩ : ∃ F : Nat → va_E, F = Fo := ⟨_, rfl⟩
  rw [← hFo] at hT
  have hfr : (∀ b j : Nat, fld F b j = fld Fo b j) ∧ (∀ b j : Nat, tag b ≠ 37 → elm F b j = elm Fo b j) := by
    rw [hFo]
    exact ⟨by intros; rfl, by intros; rfl⟩
  refine lv_aload_n hx hb dX13_drawn_0 rfl (lv_at hl 0 rfl) ?_
  refine lv_sipush (v := 211) hx hb dX13_drawn_1 (by decide) ?_
  refine m_ldc2 (v := 75) X qw_1171 dX13_drawn_4 ?_
  refine lv_aload_n hx hb dX13_drawn_7 rfl (lv_at hl 0 rfl) ?_
  refine lv_sipush (v := 211) hx hb dX13_drawn_8 (by decide) ?_
  refine t_ild X hT m0 g0 rfl (by decide) dX13_drawn_11 (fun z48898 vz48898 rz48898 => ?_)
  have oz48898 := rz48898
  have rz48898 := rg_all z48898
  refine lv_i2l hx hb dX13_drawn_12 rfl ?_
  refine lv_topl (fun z48899 ez48899 => ?_)
  refine lv_lmul hx hb dX13_drawn_13 ?_
  refine lv_topl (fun z48900 ez48900 => ?_)
  refine m_ldc2 (v := 74) X qw_1172 dX13_drawn_14 ?_
  refine lv_ladd hx hb dX13_drawn_17 ?_
  refine lv_topl (fun z48901 ez48901 => ?_)
  refine m_ldc2 (v := 65537) X qw_1173 dX13_drawn_18 ?_
  refine lv_lrem hx hb dX13_drawn_21 (by decide) ?_
  refine lv_topl (fun z48902 ez48902 => ?_)
  refine lv_l2i hx hb dX13_drawn_22 rfl ?_
  refine lv_topi (fun z48903 ez48903 => ?_)
  have rz48903 := rg_all z48903
  refine t_ist X hT m0 g0 rfl (by decide) (row_fv (by decide) (Or.inr (Or.inl (by decide)))) dX13_drawn_23 (fun F H locs hT v48904 h1v48904 h2v48904 => ?_)
  have hfr : (∀ b j : Nat, fld F b j = fld Fo b j) ∧ (∀ b j : Nat, tag b ≠ 37 → elm F b j = elm Fo b j) := ⟨fun b j  => (h2v48904 b j).trans (hfr.1 b j ), fun b j a37 => (h1v48904 b j (Or.inl (at_ne g0 a37))).trans (hfr.2 b j a37)⟩
  refine lv_aload_n hx hb dX13_drawn_24 rfl (lv_at hl 0 rfl) ?_
  refine lv_sipush (v := 211) hx hb dX13_drawn_25 (by decide) ?_
  refine t_ild X hT m0 g0 rfl (by decide) dX13_drawn_28 (fun z48905 vz48905 rz48905 => ?_)
  obtain rfl : z48903 = z48905 := v48904.symm.trans vz48905
  refine lv_bipush (v := 100) hx hb dX13_drawn_29 (by decide) ?_
  refine lv_irem hx hb dX13_drawn_31 (by decide) ?_
  refine lv_topi (fun z48906 ez48906 => ?_)
  have rz48906 := rg_all z48906
  exact t_iret hQ X hT (⟨rg_all _, hfr⟩) (Nat.le_of_ble_eq_true rfl) (Nat.le_of_ble_eq_true rfl) dX13_drawn_32
