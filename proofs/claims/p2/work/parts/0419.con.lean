set_option maxHeartbeats 4000000 in
set_option maxRecDepth 100000 in
theorem km101_X13_shared (l : Launch) (G : KG) (tag : Nat → Nat) (L : List Nat) (Fo : Nat → va_E) (ho : okT G ttC tag L Fo) (p0 : Nat) (x0 : Nat) (m0 : p0 ∈ L) (g0 : tag p0 = 46) (mx0 : x0 ∈ L) (gx0 : tag x0 = 45) (pf0 : fld Fo p0 3 = .ref x0) : TMi l yX13_shared cX13_shared 1 (some .int) { frames := 4, cells := 0, slots := 0, locals := 96 } G ttC tag L Fo [.ref p0] (fun r F1 => ((-2147483648) ≤ r.toInt ∧ r.toInt ≤ 2147483647) ∧ ((∀ b j : Nat, (tag b ≠ 46 ∨ j ≠ 0) → (tag b ≠ 46 ∨ j ≠ 1) → (tag b ≠ 46 ∨ j ≠ 2) → fld F1 b j = fld Fo b j) ∧ (∀ b j : Nat, elm F1 b j = elm Fo b j))) := by
  refine t_bodyi (y := yX13_shared) (cd := cX13_shared) (mL := 1) (rt := (some .int)) (rm := { frames := 4, cells := 0, slots := 0, locals := 96 }) (av := [.ref p0]) (by decide) (Nat.le_of_ble_eq_true rfl) ho ?_
  intro p e s m args below meth c ls A Q hQ X hT hl
  have hx := X.1.1
  have hb := X.1.2.1
  have hl : lv_has ls 1 [(0, .ref p0)] := hl
  obtain ⟨F, hFo⟩ : ∃ F : Nat → va_E, F = Fo := ⟨_, rfl⟩
  rw [← hFo] at hT pf0
  have hfr : (∀ b j : Nat, (tag b ≠ 46 ∨ j ≠ 0) → (tag b ≠ 46 ∨ j ≠ 1) → (tag b ≠ 46 ∨ j ≠ 2) → fld F b j = fld Fo b j) ∧ (∀ b j : Nat, elm F b j = elm Fo b j) := by
    rw [hFo]
    exact ⟨by intros; rfl, by intros; rfl⟩
  refine lv_aload_n hx hb dX13_shared_0 rfl (lv_at hl 0 rfl) ?_
  refine lv_iconst (v := 0) hx hb dX13_shared_1 (by decide) ?_
  refine t_put (C := RX13) (T := TX13) (N := 37) (v := .int 0) X hT m0 g0 rfl tyX13 tyX13_ok nmX13 rfl 0 (by decide) qw_140 inlX13 rfl (by first | rfl | decide) (by first | rfl | decide) rfl (⟨_, rfl, (show (-2147483648) ≤ (0 : Int32).toInt from (by decide)), (show (0 : Int32).toInt ≤ 2147483647 from (by decide))⟩) dX13_shared_2 (fun F H locs hT v32247 h1v32247 h2v32247 => ?_)
  have pf0 := (h1v32247 _ _ (Or.inr (by decide))).trans pf0
  have hfr : (∀ b j : Nat, (tag b ≠ 46 ∨ j ≠ 0) → (tag b ≠ 46 ∨ j ≠ 1) → (tag b ≠ 46 ∨ j ≠ 2) → fld F b j = fld Fo b j) ∧ (∀ b j : Nat, elm F b j = elm Fo b j) := ⟨fun b j n46_0 n46_1 n46_2 => (h1v32247 b j (fr_ne g0 n46_0)).trans (hfr.1 b j n46_0 n46_1 n46_2), fun b j  => (h2v32247 b j).trans (hfr.2 b j )⟩
  refine lv_aload_n hx hb dX13_shared_5 rfl (lv_at hl 0 rfl) ?_
  refine t_get (C := RX13) (T := TX13) (N := 37) X hT m0 g0 rfl rfl 3 (by decide) qw_481 inlX13 rfl dX13_shared_6 (fun v32248 hv32248 ov32248 => ?_)
  obtain rfl : v32248 = .ref x0 := hv32248.symm.trans pf0
  refine lv_ifnonnull (tgt := 20) hx hb dX13_shared_9 (by decide) ?_
  refine lv_aload_n hx hb dX13_shared_20 rfl (lv_at hl 0 rfl) ?_
  refine lv_aload_n hx hb dX13_shared_21 rfl (lv_at hl 0 rfl) ?_
  refine lv_iconst (v := 2) hx hb dX13_shared_22 (by decide) ?_
  refine lv_iconst (v := 4) hx hb dX13_shared_23 (by decide) ?_
  refine lv_iconst (v := 0) hx hb dX13_shared_24 (by decide) ?_
  refine t_cVi (n := 3) (C := RX13) (T := TX13) (N := 37) (As := [.int 2, .int 4, .int 0]) (rest := [.ref p0]) X hT (km100_X13_owned l G tag L F hT.2.2.2 p0 2 4 0 x0 m0 g0 (by decide) mx0 gx0 pf0) m0 g0 rfl rfl qw_740 qw_741 qw_742 qw_5 qw_743 ⟨rfl, by decide +kernel, by decide +kernel, by decide +kernel⟩ ⟨Nat.le_of_ble_eq_true rfl, Nat.le_of_ble_eq_true rfl⟩ hl rfl rfl (Nat.le_of_ble_eq_true rfl) dX13_shared_25 ⟨Nat.le_of_ble_eq_true rfl, Nat.le_of_ble_eq_true rfl⟩ (fun z32249 F9 H locs hT hz32249 => ?_)
  obtain ⟨fz32249, hz32249⟩ := hz32249
  rw [fz32249] at hT
  refine t_cVi (n := 1) (C := RX13) (T := TX13) (N := 37) (As := [.int z32249]) (rest := []) X hT (km93_X13_good l G tag L F hT.2.2.2 p0 z32249 m0 g0) m0 g0 rfl rfl qw_687 qw_688 qw_689 qw_5 qw_690 ⟨rfl, by decide +kernel, by decide +kernel, by decide +kernel⟩ ⟨Nat.le_of_ble_eq_true rfl, Nat.le_of_ble_eq_true rfl⟩ hl rfl rfl (Nat.le_of_ble_eq_true rfl) dX13_shared_28 ⟨Nat.le_of_ble_eq_true rfl, Nat.le_of_ble_eq_true rfl⟩ (fun z32250 F H locs hT hz32250 => ?_)
  obtain ⟨hz32250, yz32250⟩ := hz32250
  have pf0 := (yz32250.1 _ 3 (Or.inr (by decide)) (Or.inr (by decide))).trans pf0
  have v32247 := (yz32250.1 _ 0 (Or.inr (by decide)) (Or.inr (by decide))).trans v32247
  have hfr : (∀ b j : Nat, (tag b ≠ 46 ∨ j ≠ 0) → (tag b ≠ 46 ∨ j ≠ 1) → (tag b ≠ 46 ∨ j ≠ 2) → fld F b j = fld Fo b j) ∧ (∀ b j : Nat, elm F b j = elm Fo b j) := ⟨fun b j n46_0 n46_1 n46_2 => (yz32250.1 b j n46_1 n46_2).trans (hfr.1 b j n46_0 n46_1 n46_2), fun b j  => (yz32250.2 b j ).trans (hfr.2 b j )⟩
  exact t_iret hQ X hT (⟨rg_all _, hfr⟩) (Nat.le_of_ble_eq_true rfl) (Nat.le_of_ble_eq_true rfl) dX13_shared_31
set_option maxHeartbeats 4000000 in
set_option maxRecDepth 100000 in
theorem km102_X13_shared (l : Launch) (G : KG) (tag : Nat → Nat) (L : List Nat) (Fo : Nat → va_E) (ho : okT G ttC tag L Fo) (p0 : Nat) (m0 : p0 ∈ L) (g0 : tag p0 = 46) (pf0 : fld Fo p0 3 = .null) : TMi l yX13_shared cX13_shared 1 (some .int) { frames := 4, cells := 0, slots := 0, locals := 96 } G ttC tag L Fo [.ref p0] (fun r F1 => ((-2147483648) ≤ r.toInt ∧ r.toInt ≤ 2147483647) ∧ ((∀ b j : Nat, (tag b ≠ 46 ∨ j ≠ 0) → (tag b ≠ 46 ∨ j ≠ 1) → (tag b ≠ 46 ∨ j ≠ 2) → fld F1 b j = fld Fo b j) ∧ (∀ b j : Nat, elm F1 b j = elm Fo b j))) := by
  refine t_bodyi (y := yX13_shared) (cd := cX13_shared) (mL := 1) (rt := (some .int)) (rm := { frames := 4, cells := 0, slots := 0, locals := 96 }) (av := [.ref p0]) (by decide) (Nat.le_of_ble_eq_true rfl) ho ?_
  intro p e s m args below meth c ls A Q hQ X hT hl
  have hx := X.1.1
  have hb := X.1.2.1
  have hl : lv_has ls 1 [(0, .ref p0)] := hl
  obtain ⟨F, hFo⟩ : ∃ F : Nat → va_E, F = Fo := ⟨_, rfl⟩
  rw [← hFo] at hT pf0
  have hfr : (∀ b j : Nat, (tag b ≠ 46 ∨ j ≠ 0) → (tag b ≠ 46 ∨ j ≠ 1) → (tag b ≠ 46 ∨ j ≠ 2) → fld F b j = fld Fo b j) ∧ (∀ b j : Nat, elm F b j = elm Fo b j) := by
    rw [hFo]
    exact ⟨by intros; rfl, by intros; rfl⟩
  refine lv_aload_n hx hb dX13_shared_0 rfl (lv_at hl 0 rfl) ?_
  refine lv_iconst (v := 0) hx hb dX13_shared_1 (by decide) ?_
  refine t_put (C := RX13) (T := TX13) (N := 37) (v := .int 0) X hT m0 g0 rfl tyX13 tyX13_ok nmX13 rfl 0 (by decide) qw_140 inlX13 rfl (by first | rfl | decide) (by first | rfl | decide) rfl (⟨_, rfl, (show (-2147483648) ≤ (0 : Int32).toInt from (by decide)), (show (0 : Int32).toInt ≤ 2147483647 from (by decide))⟩) dX13_shared_2 (fun F H locs hT v32284 h1v32284 h2v32284 => ?_)
  have pf0 := (h1v32284 _ _ (Or.inr (by decide))).trans pf0
  have hfr : (∀ b j : Nat, (tag b ≠ 46 ∨ j ≠ 0) → (tag b ≠ 46 ∨ j ≠ 1) → (tag b ≠ 46 ∨ j ≠ 2) → fld F b j = fld Fo b j) ∧ (∀ b j : Nat, elm F b j = elm Fo b j) := ⟨fun b j n46_0 n46_1 n46_2 => (h1v32284 b j (fr_ne g0 n46_0)).trans (hfr.1 b j n46_0 n46_1 n46_2), fun b j  => (h2v32284 b j).trans (hfr.2 b j )⟩
  refine lv_aload_n hx hb dX13_shared_5 rfl (lv_at hl 0 rfl) ?_
  refine t_get (C := RX13) (T := TX13) (N := 37) X hT m0 g0 rfl rfl 3 (by decide) qw_481 inlX13 rfl dX13_shared_6 (fun v32285 hv32285 ov32285 => ?_)
  obtain rfl : v32285 = .null := hv32285.symm.trans pf0
  refine lv_ifnonnullN hx hb dX13_shared_9 ?_
  refine lv_aload_n hx hb dX13_shared_12 rfl (lv_at hl 0 rfl) ?_
  refine lv_iconst (v := 1) hx hb dX13_shared_13 (by decide) ?_
  refine t_cVi (n := 1) (C := RX13) (T := TX13) (N := 37) (As := [.int 1]) (rest := []) X hT (km88_X13_refused l G tag L F hT.2.2.2 p0 1 m0 g0) m0 g0 rfl rfl qw_484 qw_485 qw_486 qw_5 qw_487 ⟨rfl, by decide +kernel, by decide +kernel, by decide +kernel⟩ ⟨Nat.le_of_ble_eq_true rfl, Nat.le_of_ble_eq_true rfl⟩ hl rfl rfl (Nat.le_of_ble_eq_true rfl) dX13_shared_14 ⟨Nat.le_of_ble_eq_true rfl, Nat.le_of_ble_eq_true rfl⟩ (fun z32286 F H locs hT hz32286 => ?_)
  obtain ⟨hz32286, yz32286⟩ := hz32286
  have pf0 := (yz32286.1 _ 3 (Or.inr (by decide)) (Or.inr (by decide))).trans pf0
  have v32284 := (yz32286.1 _ 0 (Or.inr (by decide)) (Or.inr (by decide))).trans v32284
  have hfr : (∀ b j : Nat, (tag b ≠ 46 ∨ j ≠ 0) → (tag b ≠ 46 ∨ j ≠ 1) → (tag b ≠ 46 ∨ j ≠ 2) → fld F b j = fld Fo b j) ∧ (∀ b j : Nat, elm F b j = elm Fo b j) := ⟨fun b j n46_0 n46_1 n46_2 => (yz32286.1 b j n46_1 n46_2).trans (hfr.1 b j n46_0 n46_1 n46_2), fun b j  => (yz32286.2 b j ).trans (hfr.2 b j )⟩
  refine lv_goto (tgt := 31) hx hb dX13_shared_17 (by decide) ?_
  exact t_iret hQ X hT (⟨rg_all _, hfr⟩) (Nat.le_of_ble_eq_true rfl) (Nat.le_of_ble_eq_true rfl) dX13_shared_31
theorem kp_X13_shared (l : Launch) (G : KG) (tag : Nat → Nat) (L : List Nat) (Fo : Nat → va_E) (ho : okT G ttC tag L Fo) (p0 : Nat) (m0 : p0 ∈ L) (g0 : tag p0 = 46) : TMi l yX13_shared cX13_shared 1 (some .int) { frames := 4, cells := 0, slots := 0, locals := 96 } G ttC tag L Fo [.ref p0] (fun r F1 => ((-2147483648) ≤ r.toInt ∧ r.toInt ≤ 2147483647) ∧ ((∀ b j : Nat, (tag b ≠ 46 ∨ j ≠ 0) → (tag b ≠ 46 ∨ j ≠ 1) → (tag b ≠ 46 ∨ j ≠ 2) → fld F1 b j = fld Fo b j) ∧ (∀ b j : Nat, elm F1 b j = elm Fo b j))) := by
  rcases t_fldn ho m0 g0 rfl 3 rfl with h9 | ⟨b9, h9, m9, t9⟩
  · exact km102_X13_shared l G tag L Fo ho p0  m0 g0 h9 
  · exact km101_X13_shared l G tag L Fo ho p0 b9  m0 g0 m9 (tg_of t9) h9 
set_option maxHeartbeats 4000000 in
set_option maxRecDepth 100000 in
theorem km104_X13_free (l : Launch) (G : KG) (tag : Nat → Nat) (L : List Nat) (Fo : Nat → va_E) (ho : okT G ttC tag L Fo) (p0 : Nat) (x0 : Nat) (m0 : p0 ∈ L) (g0 : tag p0 = 46) (mx0 : x0 ∈ L) (gx0 : tag x0 = 45) (pf0 : fld Fo p0 3 = .ref x0) : TMi l yX13_free cX13_free 1 (some .int) { frames := 4, cells := 0, slots := 0, locals := 96 } G ttC tag L Fo [.ref p0] (fun r F1 => ((-2147483648) ≤ r.toInt ∧ r.toInt ≤ 2147483647) ∧ ((∀ b j : Nat, (tag b ≠ 46 ∨ j ≠ 0) → (tag b ≠ 46 ∨ j ≠ 1) → (tag b ≠ 46 ∨ j ≠ 2) → fld F1 b j = fld Fo b j) ∧ (∀ b j : Nat, elm F1 b j = elm Fo b j))) := by
  refine t_bodyi (y := yX13_free) (cd := cX13_free) (mL := 1) (rt := (some .int)) (rm := { frames := 4, cells := 0, slots := 0, locals := 96 }) (av := [.ref p0]) (by decide) (Nat.le_of_ble_eq_true rfl) ho ?_
  intro p e s m args below meth c ls A Q hQ X hT hl
  have hx := X.1.1
  have hb := X.1.2.1
  have hl : lv_has ls 1 [(0, .ref p0)] := hl
  obtain ⟨F, hFo⟩ : ∃ F : Nat → va_E, F = Fo := ⟨_, rfl⟩
  rw [← hFo] at hT pf0
  have hfr : (∀ b j : Nat, (tag b ≠ 46 ∨ j ≠ 0) → (tag b ≠ 46 ∨ j ≠ 1) → (tag b ≠ 46 ∨ j ≠ 2) → fld F b j = fld Fo b j) ∧ (∀ b j : Nat, elm F b j = elm Fo b j) := by
    rw [hFo]
    exact ⟨by intros; rfl, by intros; rfl⟩
  refine lv_aload_n hx hb dX13_free_0 rfl (lv_at hl 0 rfl) ?_
  refine lv_iconst (v := 0) hx hb dX13_free_1 (by decide) ?_
  refine t_put (C := RX13) (T := TX13) (N := 37) (v := .int 0) X hT m0 g0 rfl tyX13 tyX13_ok nmX13 rfl 0 (by decide) qw_140 inlX13 rfl (by first | rfl | decide) (by first | rfl | decide) rfl (⟨_, rfl, (show (-2147483648) ≤ (0 : Int32).toInt from (by decide)), (show (0 : Int32).toInt ≤ 2147483647 from (by decide))⟩) dX13_free_2 (fun F H locs hT v32331 h1v32331 h2v32331 => ?_)
  have pf0 := (h1v32331 _ _ (Or.inr (by decide))).trans pf0
  have hfr : (∀ b j : Nat, (tag b ≠ 46 ∨ j ≠ 0) → (tag b ≠ 46 ∨ j ≠ 1) → (tag b ≠ 46 ∨ j ≠ 2) → fld F b j = fld Fo b j) ∧ (∀ b j : Nat, elm F b j = elm Fo b j) := ⟨fun b j n46_0 n46_1 n46_2 => (h1v32331 b j (fr_ne g0 n46_0)).trans (hfr.1 b j n46_0 n46_1 n46_2), fun b j  => (h2v32331 b j).trans (hfr.2 b j )⟩
  refine lv_aload_n hx hb dX13_free_5 rfl (lv_at hl 0 rfl) ?_
  refine t_get (C := RX13) (T := TX13) (N := 37) X hT m0 g0 rfl rfl 3 (by decide) qw_481 inlX13 rfl dX13_free_6 (fun v32332 hv32332 ov32332 => ?_)
  obtain rfl : v32332 = .ref x0 := hv32332.symm.trans pf0
  refine lv_ifnonnull (tgt := 20) hx hb dX13_free_9 (by decide) ?_
  refine lv_aload_n hx hb dX13_free_20 rfl (lv_at hl 0 rfl) ?_
  refine lv_aload_n hx hb dX13_free_21 rfl (lv_at hl 0 rfl) ?_
  refine lv_iconst (v := 0) hx hb dX13_free_22 (by decide) ?_
  refine lv_iconst (v := 0) hx hb dX13_free_23 (by decide) ?_
  refine lv_iconst (v := 1) hx hb dX13_free_24 (by decide) ?_
  refine t_cVi (n := 3) (C := RX13) (T := TX13) (N := 37) (As := [.int 0, .int 0, .int 1]) (rest := [.ref p0]) X hT (km100_X13_owned l G tag L F hT.2.2.2 p0 0 0 1 x0 m0 g0 (by decide) mx0 gx0 pf0) m0 g0 rfl rfl qw_740 qw_741 qw_742 qw_5 qw_743 ⟨rfl, by decide +kernel, by decide +kernel, by decide +kernel⟩ ⟨Nat.le_of_ble_eq_true rfl, Nat.le_of_ble_eq_true rfl⟩ hl rfl rfl (Nat.le_of_ble_eq_true rfl) dX13_free_25 ⟨Nat.le_of_ble_eq_true rfl, Nat.le_of_ble_eq_true rfl⟩ (fun z32333 F9 H locs hT hz32333 => ?_)
  obtain ⟨fz32333, hz32333⟩ := hz32333
  rw [fz32333] at hT
  refine t_cVi (n := 1) (C := RX13) (T := TX13) (N := 37) (As := [.int z32333]) (rest := []) X hT (km93_X13_good l G tag L F hT.2.2.2 p0 z32333 m0 g0) m0 g0 rfl rfl qw_687 qw_688 qw_689 qw_5 qw_690 ⟨rfl, by decide +kernel, by decide +kernel, by decide +kernel⟩ ⟨Nat.le_of_ble_eq_true rfl, Nat.le_of_ble_eq_true rfl⟩ hl rfl rfl (Nat.le_of_ble_eq_true rfl) dX13_free_28 ⟨Nat.le_of_ble_eq_true rfl, Nat.le_of_ble_eq_true rfl⟩ (fun z32334 F H locs hT hz32334 => ?_)
  obtain ⟨hz32334, yz32334⟩ := hz32334
  have pf0 := (yz32334.1 _ 3 (Or.inr (by decide)) (Or.inr (by decide))).trans pf0
  have v32331 := (yz32334.1 _ 0 (Or.inr (by decide)) (Or.inr (by decide))).trans v32331
  have hfr : (∀ b j : Nat, (tag b ≠ 46 ∨ j ≠ 0) → (tag b ≠ 46 ∨ j ≠ 1) → (tag b ≠ 46 ∨ j ≠ 2) → fld F b j = fld Fo b j) ∧ (∀ b j : Nat, elm F b j = elm Fo b j) := ⟨fun b j n46_0 n46_1 n46_2 => (yz32334.1 b j n46_1 n46_2).trans (hfr.1 b j n46_0 n46_1 n46_2), fun b j  => (yz32334.2 b j ).trans (hfr.2 b j )⟩
  exact t_iret hQ X hT (⟨rg_all _, hfr⟩) (Nat.le_of_ble_eq_true rfl) (Nat.le_of_ble_eq_true rfl) dX13_free_31
set_option maxHeartbeats 4000000 in
set_option maxRecDepth 100000 in
theorem km105_X13_free (l : Launch) (G : KG) (tag : Nat → Nat) (L : List Nat) (Fo : Nat → va_E) (ho : okT G ttC tag L Fo) (p0 : Nat) (m0 : p0 ∈ L) (g0 : tag p0 = 46) (pf0 : fld Fo p0 3 = .null) : TMi l yX13_free cX13_free 1 (some .int) { frames := 4, cells := 0, slots := 0, locals := 96 } G ttC tag L Fo [.ref p0] (fun r F1 => ((-2147483648) ≤ r.toInt ∧ r.toInt ≤ 2147483647) ∧ ((∀ b j : Nat, (tag b ≠ 46 ∨ j ≠ 0) → (tag b ≠ 46 ∨ j ≠ 1) → (tag b ≠ 46 ∨ j ≠ 2) → fld F1 b j = fld Fo b j) ∧ (∀ b j : Nat, elm F1 b j = elm Fo b j))) := by
  refine t_bodyi (y := yX13_free) (cd := cX13_free) (mL := 1) (rt := (some .int)) (rm := { frames := 4, cells := 0, slots := 0, locals := 96 }) (av := [.ref p0]) (by decide) (Nat.le_of_ble_eq_true rfl) ho ?_
  intro p e s m args below meth c ls A Q hQ X hT hl
  have hx := X.1.1
  have hb := X.1.2.1
  have hl : lv_has ls 1 [(0, .ref p0)] := hl
  obtain ⟨F, hFo⟩ : ∃ F : Nat → va_E, F = Fo := ⟨_, rfl⟩
  rw [← hFo] at hT pf0
  have hfr : (∀ b j : Nat, (tag b ≠ 46 ∨ j ≠ 0) → (tag b ≠ 46 ∨ j ≠ 1) → (tag b ≠ 46 ∨ j ≠ 2) → fld F b j = fld Fo b j) ∧ (∀ b j : Nat, elm F b j = elm Fo b j) := by
    rw [hFo]
    exact ⟨by intros; rfl, by intros; rfl⟩
  refine lv_aload_n hx hb dX13_free_0 rfl (lv_at hl 0 rfl) ?_
  refine lv_iconst (v := 0) hx hb dX13_free_1 (by decide) ?_
  refine t_put (C := RX13) (T := TX13) (N := 37) (v := .int 0) X hT m0 g0 rfl tyX13 tyX13_ok nmX13 rfl 0 (by decide) qw_140 inlX13 rfl (by first | rfl | decide) (by first | rfl | decide) rfl (⟨_, rfl, (show (-2147483648) ≤ (0 : Int32).toInt from (by decide)), (show (0 : Int32).toInt ≤ 2147483647 from (by decide))⟩) dX13_free_2 (fun F H locs hT v32368 h1v32368 h2v32368 => ?_)
  have pf0 := (h1v32368 _ _ (Or.inr (by decide))).trans pf0
  have hfr : (∀ b j : Nat, (tag b ≠ 46 ∨ j ≠ 0) → (tag b ≠ 46 ∨ j ≠ 1) → (tag b ≠ 46 ∨ j ≠ 2) → fld F b j = fld Fo b j) ∧ (∀ b j : Nat, elm F b j = elm Fo b j) := ⟨fun b j n46_0 n46_1 n46_2 => (h1v32368 b j (fr_ne g0 n46_0)).trans (hfr.1 b j n46_0 n46_1 n46_2), fun b j  => (h2v32368 b j).trans (hfr.2 b j )⟩
  refine lv_aload_n hx hb dX13_free_5 rfl (lv_at hl 0 rfl) ?_
  refine t_get (C := RX13) (T := TX13) (N := 37) X hT m0 g0 rfl rfl 3 (by decide) qw_481 inlX13 rfl dX13_free_6 (fun v32369 hv32369 ov32369 => ?_)
  obtain rfl : v32369 = .null := hv32369.symm.trans pf0
  refine lv_ifnonnullN hx hb dX13_free_9 ?_
  refine lv_aload_n hx hb dX13_free_12 rfl (lv_at hl 0 rfl) ?_
  refine lv_iconst (v := 1) hx hb dX13_free_13 (by decide) ?_
  refine t_cVi (n := 1) (C := RX13) (T := TX13) (N := 37) (As := [.int 1]) (rest := []) X hT (km88_X13_refused l G tag L F hT.2.2.2 p0 1 m0 g0) m0 g0 rfl rfl qw_484 qw_485 qw_486 qw_5 qw_487 ⟨rfl, by decide +kernel, by decide +kernel, by decide +kernel⟩ ⟨Nat.le_of_ble_eq_true rfl, Nat.le_of_ble_eq_true rfl⟩ hl rfl rfl (Nat.le_of_ble_eq_true rfl) dX13_free_14 ⟨Nat.le_of_ble_eq_true rfl, Nat.le_of_ble_eq_true rfl⟩ (fun z32370 F H locs hT hz32370 => ?_)
  obtain ⟨hz32370, yz32370⟩ := hz32370
  have pf0 := (yz32370.1 _ 3 (Or.inr (by decide)) (Or.inr (by decide))).trans pf0
  have v32368 := (yz32370.1 _ 0 (Or.inr (by decide)) (Or.inr (by decide))).trans v32368
  have hfr : (∀ b j : Nat, (tag b ≠ 46 ∨ j ≠ 0) → (tag b ≠ 46 ∨ j ≠ 1) → (tag b ≠ 46 ∨ j ≠ 2) → fld F b j = fld Fo b j) ∧ (∀ b j : Nat, elm F b j = elm Fo b j) := ⟨fun b j n46_0 n46_1 n46_2 => (yz32370.1 b j n46_1 n46_2).trans (hfr.1 b j n46_0 n46_1 n46_2), fun b j  => (yz32370.2 b j ).trans (hfr.2 b j )⟩
  refine lv_goto (tgt := 31) hx hb dX13_free_17 (by decide) ?_
  exact t_iret hQ X hT (⟨rg_all _, hfr⟩) (Nat.le_of_ble_eq_true rfl) (Nat.le_of_ble_eq_true rfl) dX13_free_31
theorem kp_X13_free (l : Launch) (G : KG) (tag : Nat → Nat) (L : List Nat) (Fo : Nat → va_E) (ho : okT G ttC tag L Fo) (p0 : Nat) (m0 : p0 ∈ L) (g0 : tag p0 = 46) : TMi l yX13_free cX13_free 1 (some .int) { frames := 4, cells := 0, slots := 0, locals := 96 } G ttC tag L Fo [.ref p0] (fun r F1 => ((-2147483648) ≤ r.toInt ∧ r.toInt ≤ 2147483647) ∧ ((∀ b j : Nat, (tag b ≠ 46 ∨ j ≠ 0) → (tag b ≠ 46 ∨ j ≠ 1) → (tag b ≠ 46 ∨ j ≠ 2) → fld F1 b j = fld Fo b j) ∧ (∀ b j : Nat, elm F1 b j = elm Fo b j))) := by
  rcases t_fldn ho m0 g0 rfl 3 rfl with h9 | ⟨b9, h9, m9, t9⟩
  · exact km105_X13_free l G tag L Fo ho p0  m0 g0 h9 
  · exact km104_X13_free l G tag L Fo ho p0 b9  m0 g0 m9 (tg_of t9) h9 
set_option maxHeartbeats 4000000 in
set_option maxRecDepth 100000 in
theorem km107_X13_isHouse (l : Launch) (G : KG) (tag : Nat → Nat) (L : List Nat) (F : Nat → va_E) (ho : okT G ttC tag L F) (p0 : Nat) (p1 : Int32) (x0 : Nat) (m0 : p0 ∈ L) (g0 : tag p0 = 46) (mx0 : x0 ∈ L) (gx0 : tag x0 = 45) (pf0 : fld F p0 3 = .ref x0) : TMi l yX13_isHouse cX13_isHouse 2 (some .boolean) { frames := 0, cells := 0, slots := 0, locals := 0 } G ttC tag L F [.ref p0, .int p1] (fun r F1 => F1 = F ∧ ((0 ≤ r.toInt ∧ r.toInt ≤ 1) ∧ (r.toInt ≠ 0 → (0 ≤ p1.toInt ∧ p1.toInt ≤ 3)))) := by
  refine t_bodyi (y := yX13_isHouse) (cd := cX13_isHouse) (mL := 2) (rt := (some .boolean)) (rm := { frames := 0, cells := 0, slots := 0, locals := 0 }) (av := [.ref p0, .int p1]) (by decide) (Nat.le_of_ble_eq_true rfl) ho ?_
  intro p e s m args below meth c ls A Q hQ X hT hl
  have hx := X.1.1
  have hb := X.1.2.1
  have hl : lv_has ls 2 [(0, .ref p0), (1, .int p1)] := hl
  have rp1 := rg_all p1
  refine lv_aload_n hx hb dX13_isHouse_0 rfl (lv_at hl 0 rfl) ?_
  refine t_get (C := RX13) (T := TX13) (N := 37) X hT m0 g0 rfl rfl 3 (by decide) qw_481 inlX13 rfl dX13_isHouse_1 (fun v32482 hv32482 ov32482 => ?_)
  obtain rfl : v32482 = .ref x0 := hv32482.symm.trans pf0
  refine lv_ifnull hx hb dX13_isHouse_4 ?_
  refine lv_iload_n hx hb dX13_isHouse_7 rfl (lv_at hl 1 rfl) ?_
  refine lv_if_lt (tgt := 26) hx hb dX13_isHouse_8 (by decide) (fun c32483 => ?_) (fun c32483 => ?_)
  · have w32484 := cv_lt (rfl : p1.toInt = p1.toInt) (by decide : (0 : Int32).toInt = 0) c32483
    refine lv_iconst (v := 0) hx hb dX13_isHouse_26 (by decide) ?_
    have k32485 : (0 : Int32).toInt = 0 := by decide
    exact t_zret hQ X hT (by decide) (⟨rfl, ⟨(by decide), fun h => absurd (by decide) h⟩⟩) (Nat.le_of_ble_eq_true rfl) (Nat.le_of_ble_eq_true rfl) dX13_isHouse_27
  · have w32486 := cv_nlt (rfl : p1.toInt = p1.toInt) (by decide : (0 : Int32).toInt = 0) c32483
    refine lv_iload_n hx hb dX13_isHouse_11 rfl (lv_at hl 1 rfl) ?_
    refine lv_aload_n hx hb dX13_isHouse_12 rfl (lv_at hl 0 rfl) ?_
    refine t_get (C := RX13) (T := TX13) (N := 37) X hT m0 g0 rfl rfl 3 (by decide) qw_481 inlX13 rfl dX13_isHouse_13 (fun v32487 hv32487 ov32487 => ?_)
    obtain rfl : v32487 = .ref x0 := hv32487.symm.trans pf0
    refine t_getN (C := RX12) (T := TX12) (N := 31) X hT mx0 gx0 rfl rfl 8 (by decide) (List.mem_of_getElem? (i := 12) rfl) inlX12 rfl dX13_isHouse_16 (fun v32488 hv32488 ov32488 => ?_)
    obtain ⟨z32489, rfl, rz32489⟩ := okV_i ov32488
    refine lv_icmp_ge (tgt := 26) hx hb dX13_isHouse_19 (by decide) (fun c32490 => ?_) (fun c32490 => ?_)
    · have w32491 := cv_le (rfl : z32489.toInt = z32489.toInt) (rfl : p1.toInt = p1.toInt) c32490
      refine lv_iconst (v := 0) hx hb dX13_isHouse_26 (by decide) ?_
      have k32492 : (0 : Int32).toInt = 0 := by decide
      exact t_zret hQ X hT (by decide) (⟨rfl, ⟨(by decide), fun h => absurd (by decide) h⟩⟩) (Nat.le_of_ble_eq_true rfl) (Nat.le_of_ble_eq_true rfl) dX13_isHouse_27
    · have w32493 := cv_nle (rfl : z32489.toInt = z32489.toInt) (rfl : p1.toInt = p1.toInt) c32490
      refine lv_iconst (v := 1) hx hb dX13_isHouse_22 (by decide) ?_
      refine lv_goto (tgt := 27) hx hb dX13_isHouse_23 (by decide) ?_
      have k32494 : (1 : Int32).toInt = 1 := by decide
      exact t_zret hQ X hT (by decide) (⟨rfl, ⟨(by decide), fun _ => by omega⟩⟩) (Nat.le_of_ble_eq_true rfl) (Nat.le_of_ble_eq_true rfl) dX13_isHouse_27
set_option maxHeartbeats 4000000 in
set_option maxRecDepth 100000 in
theorem km108_X13_doorX (l : Launch) (G : KG) (tag : Nat → Nat) (L : List Nat) (F : Nat → va_E) (ho : okT G ttC tag L F) (p0 : Int32) (p1 : Int32) (p2 : Int32)  : TMi l yX13_doorX cX13_doorX 3 (some .int) { frames := 0, cells := 0, slots := 0, locals := 0 } G ttC tag L F [.int p0, .int p1, .int p2] (fun r F1 => F1 = F ∧ ((-2147483648) ≤ r.toInt ∧ r.toInt ≤ 2147483647)) := by
  refine t_bodyi (y := yX13_doorX) (cd := cX13_doorX) (mL := 3) (rt := (some .int)) (rm := { frames := 0, cells := 0, slots := 0, locals := 0 }) (av := [.int p0, .int p1, .int p2]) (by decide) (Nat.le_of_ble_eq_true rfl) ho ?_
  intro p e s m args below meth c ls A Q hQ X hT hl
  have hx := X.1.1
  have hb := X.1.2.1
  have hl : lv_has ls 3 [(0, .int p0), (1, .int p1), (2, .int p2)] := hl
  have rp0 := rg_all p0
  have rp1 := rg_all p1
  have rp2 := rg_all p2
  refine lv_iload_n hx hb dX13_doorX_0 rfl (lv_at hl 1 rfl) ?_
  refine lv_iconst (v := 1) hx hb dX13_doorX_1 (by decide) ?_
  refine lv_icmp_ne (tgt := 9) hx hb dX13_doorX_2 (by decide) (fun c32663 => ?_) (fun c32663 => ?_)
  · have w32664 := cv_ne (rfl : p1.toInt = p1.toInt) (by decide : (1 : Int32).toInt = 1) c32663
    refine lv_iload_n hx hb dX13_doorX_9 rfl (lv_at hl 1 rfl) ?_
    refine lv_iconst (v := 3) hx hb dX13_doorX_10 (by decide) ?_
    refine lv_icmp_ne (tgt := 19) hx hb dX13_doorX_11 (by decide) (fun c32665 => ?_) (fun c32665 => ?_)
    · have w32666 := cv_ne (rfl : p1.toInt = p1.toInt) (by decide : (3 : Int32).toInt = 3) c32665
      refine lv_iload_n hx hb dX13_doorX_19 rfl (lv_at hl 2 rfl) ?_
      refine lv_iconst (v := 1) hx hb dX13_doorX_20 (by decide) ?_
      refine lv_iadd hx hb dX13_doorX_21 ?_
      refine lv_topi (fun z32667 ez32667 => ?_)
      have rz32667 := rg_all z32667
      refine lv_iload_n hx hb dX13_doorX_22 rfl (lv_at hl 0 rfl) ?_
      refine lv_isub hx hb dX13_doorX_23 ?_
      refine lv_topi (fun z32668 ez32668 => ?_)
      have rz32668 := rg_all z32668
      exact t_iret hQ X hT (⟨rfl, rg_all _⟩) (Nat.le_of_ble_eq_true rfl) (Nat.le_of_ble_eq_true rfl) dX13_doorX_24
    · have w32669 := cv_eq (rfl : p1.toInt = p1.toInt) (by decide : (3 : Int32).toInt = 3) c32665
      refine lv_iload_n hx hb dX13_doorX_14 rfl (lv_at hl 0 rfl) ?_
      refine lv_ineg hx hb dX13_doorX_15 ?_
      refine lv_topi (fun z32670 ez32670 => ?_)
      have rz32670 := rg_all z32670
      refine lv_goto (tgt := 24) hx hb dX13_doorX_16 (by decide) ?_
      exact t_iret hQ X hT (⟨rfl, rg_all _⟩) (Nat.le_of_ble_eq_true rfl) (Nat.le_of_ble_eq_true rfl) dX13_doorX_24
  · have w32671 := cv_eq (rfl : p1.toInt = p1.toInt) (by decide : (1 : Int32).toInt = 1) c32663
    refine lv_iload_n hx hb dX13_doorX_5 rfl (lv_at hl 0 rfl) ?_
    refine lv_goto (tgt := 24) hx hb dX13_doorX_6 (by decide) ?_
    exact t_iret hQ X hT (⟨rfl, rg_all _⟩) (Nat.le_of_ble_eq_true rfl) (Nat.le_of_ble_eq_true rfl) dX13_doorX_24
set_option maxHeartbeats 4000000 in
set_option maxRecDepth 100000 in
theorem km109_X13_outX (l : Launch) (G : KG) (tag : Nat → Nat) (L : List Nat) (F : Nat → va_E) (ho : okT G ttC tag L F) (p0 : Int32)  : TMi l yX13_outX cX13_outX 1 (some .int) { frames := 0, cells := 0, slots := 0, locals := 0 } G ttC tag L F [.int p0] (fun r F1 => F1 = F ∧ ((-1) ≤ r.toInt ∧ r.toInt ≤ 1)) := by
  refine t_bodyi (y := yX13_outX) (cd := cX13_outX) (mL := 1) (rt := (some .int)) (rm := { frames := 0, cells := 0, slots := 0, locals := 0 }) (av := [.int p0]) (by decide) (Nat.le_of_ble_eq_true rfl) ho ?_
  intro p e s m args below meth c ls A Q hQ X hT hl
  have hx := X.1.1
  have hb := X.1.2.1
  have hl : lv_has ls 1 [(0, .int p0)] := hl
  have rp0 := rg_all p0
  refine lv_iload_n hx hb dX13_outX_0 rfl (lv_at hl 0 rfl) ?_
  refine lv_iconst (v := 1) hx hb dX13_outX_1 (by decide) ?_
  refine lv_icmp_ne (tgt := 9) hx hb dX13_outX_2 (by decide) (fun c32740 => ?_) (fun c32740 => ?_)
  · have w32741 := cv_ne (rfl : p0.toInt = p0.toInt) (by decide : (1 : Int32).toInt = 1) c32740
    refine lv_iload_n hx hb dX13_outX_9 rfl (lv_at hl 0 rfl) ?_
    refine lv_iconst (v := 3) hx hb dX13_outX_10 (by decide) ?_
    refine lv_icmp_ne (tgt := 18) hx hb dX13_outX_11 (by decide) (fun c32742 => ?_) (fun c32742 => ?_)
    · have w32743 := cv_ne (rfl : p0.toInt = p0.toInt) (by decide : (3 : Int32).toInt = 3) c32742
      refine lv_iconst (v := 0) hx hb dX13_outX_18 (by decide) ?_
      have k32744 : (0 : Int32).toInt = 0 := by decide
      exact t_iret hQ X hT (⟨rfl, (by decide)⟩) (Nat.le_of_ble_eq_true rfl) (Nat.le_of_ble_eq_true rfl) dX13_outX_19
    · have w32745 := cv_eq (rfl : p0.toInt = p0.toInt) (by decide : (3 : Int32).toInt = 3) c32742
      refine lv_iconst (v := (-1)) hx hb dX13_outX_14 (by decide) ?_
      refine lv_goto (tgt := 19) hx hb dX13_outX_15 (by decide) ?_
      have k32746 : ((-1) : Int32).toInt = (-1) := by decide
      exact t_iret hQ X hT (⟨rfl, (by decide)⟩) (Nat.le_of_ble_eq_true rfl) (Nat.le_of_ble_eq_true rfl) dX13_outX_19
  · have w32747 := cv_eq (rfl : p0.toInt = p0.toInt) (by decide : (1 : Int32).toInt = 1) c32740
    refine lv_iconst (v := 1) hx hb dX13_outX_5 (by decide) ?_
    refine lv_goto (tgt := 19) hx hb dX13_outX_6 (by decide) ?_
    have k32748 : (1 : Int32).toInt = 1 := by decide
    exact t_iret hQ X hT (⟨rfl, (by decide)⟩) (Nat.le_of_ble_eq_true rfl) (Nat.le_of_ble_eq_true rfl) dX13_outX_19
set_option maxHeartbeats 4000000 in
set_option maxRecDepth 100000 in
theorem km110_X13_doorY (l : Launch) (G : KG) (tag : Nat → Nat) (L : List Nat) (F : Nat → va_E) (ho : okT G ttC tag L F) (p0 : Int32) (p1 : Int32) (p2 : Int32)  : TMi l yX13_doorY cX13_doorY 3 (some .int) { frames := 0, cells := 0, slots := 0, locals := 0 } G ttC tag L F [.int p0, .int p1, .int p2] (fun r F1 => F1 = F ∧ ((-2147483648) ≤ r.toInt ∧ r.toInt ≤ 2147483647)) := by
  refine t_bodyi (y := yX13_doorY) (cd := cX13_doorY) (mL := 3) (rt := (some .int)) (rm := { frames := 0, cells := 0, slots := 0, locals := 0 }) (av := [.int p0, .int p1, .int p2]) (by decide) (Nat.le_of_ble_eq_true rfl) ho ?_
  intro p e s m args below meth c ls A Q hQ X hT hl
  have hx := X.1.1
  have hb := X.1.2.1
  have hl : lv_has ls 3 [(0, .int p0), (1, .int p1), (2, .int p2)] := hl
  have rp0 := rg_all p0
  have rp1 := rg_all p1
  have rp2 := rg_all p2
  refine lv_iload_n hx hb dX13_doorY_0 rfl (lv_at hl 1 rfl) ?_
  refine lv_iconst (v := 2) hx hb dX13_doorY_1 (by decide) ?_
  refine lv_icmp_ne (tgt := 9) hx hb dX13_doorY_2 (by decide) (fun c32851 => ?_) (fun c32851 => ?_)
  · have w32852 := cv_ne (rfl : p1.toInt = p1.toInt) (by decide : (2 : Int32).toInt = 2) c32851
    refine lv_iload_n hx hb dX13_doorY_9 rfl (lv_at hl 1 rfl) ?_
    refine lv_if_ne (tgt := 18) hx hb dX13_doorY_10 (by decide) (fun c32853 => ?_) (fun c32853 => ?_)
    · have w32854 := cv_ne (rfl : p1.toInt = p1.toInt) (by decide : (0 : Int32).toInt = 0) c32853
      refine lv_iload_n hx hb dX13_doorY_18 rfl (lv_at hl 2 rfl) ?_
      refine lv_iconst (v := 1) hx hb dX13_doorY_19 (by decide) ?_
      refine lv_iadd hx hb dX13_doorY_20 ?_
      refine lv_topi (fun z32855 ez32855 => ?_)
      have rz32855 := rg_all z32855
      refine lv_iload_n hx hb dX13_doorY_21 rfl (lv_at hl 0 rfl) ?_
      refine lv_isub hx hb dX13_doorY_22 ?_
      refine lv_topi (fun z32856 ez32856 => ?_)
      have rz32856 := rg_all z32856
      exact t_iret hQ X hT (⟨rfl, rg_all _⟩) (Nat.le_of_ble_eq_true rfl) (Nat.le_of_ble_eq_true rfl) dX13_doorY_23
    · have w32857 := cv_eq (rfl : p1.toInt = p1.toInt) (by decide : (0 : Int32).toInt = 0) c32853
      refine lv_iload_n hx hb dX13_doorY_13 rfl (lv_at hl 0 rfl) ?_
      refine lv_ineg hx hb dX13_doorY_14 ?_
      refine lv_topi (fun z32858 ez32858 => ?_)
      have rz32858 := rg_all z32858
      refine lv_goto (tgt := 23) hx hb dX13_doorY_15 (by decide) ?_
      exact t_iret hQ X hT (⟨rfl, rg_all _⟩) (Nat.le_of_ble_eq_true rfl) (Nat.le_of_ble_eq_true rfl) dX13_doorY_23
  · have w32859 := cv_eq (rfl : p1.toInt = p1.toInt) (by decide : (2 : Int32).toInt = 2) c32851
    refine lv_iload_n hx hb dX13_doorY_5 rfl (lv_at hl 0 rfl) ?_
    refine lv_goto (tgt := 23) hx hb dX13_doorY_6 (by decide) ?_
    exact t_iret hQ X hT (⟨rfl, rg_all _⟩) (Nat.le_of_ble_eq_true rfl) (Nat.le_of_ble_eq_true rfl) dX13_doorY_23
set_option maxHeartbeats 4000000 in
set_option maxRecDepth 100000 in
theorem km111_X13_outY (l : Launch) (G : KG) (tag : Nat → Nat) (L : List Nat) (F : Nat → va_E) (ho : okT G ttC tag L F) (p0 : Int32)  : TMi l yX13_outY cX13_outY 1 (some .int) { frames := 0, cells := 0, slots := 0, locals := 0 } G ttC tag L F [.int p0] (fun r F1 => F1 = F ∧ ((-1) ≤ r.toInt ∧ r.toInt ≤ 1)) := by
  refine t_bodyi (y := yX13_outY) (cd := cX13_outY) (mL := 1) (rt := (some .int)) (rm := { frames := 0, cells := 0, slots := 0, locals := 0 }) (av := [.int p0]) (by decide) (Nat.le_of_ble_eq_true rfl) ho ?_
  intro p e s m args below meth c ls A Q hQ X hT hl
  have hx := X.1.1
  have hb := X.1.2.1
  have hl : lv_has ls 1 [(0, .int p0)] := hl
  have rp0 := rg_all p0
  refine lv_iload_n hx hb dX13_outY_0 rfl (lv_at hl 0 rfl) ?_
  refine lv_iconst (v := 2) hx hb dX13_outY_1 (by decide) ?_
  refine lv_icmp_ne (tgt := 9) hx hb dX13_outY_2 (by decide) (fun c32928 => ?_) (fun c32928 => ?_)
  · have w32929 := cv_ne (rfl : p0.toInt = p0.toInt) (by decide : (2 : Int32).toInt = 2) c32928
    refine lv_iload_n hx hb dX13_outY_9 rfl (lv_at hl 0 rfl) ?_
    refine lv_if_ne (tgt := 17) hx hb dX13_outY_10 (by decide) (fun c32930 => ?_) (fun c32930 => ?_)
    · have w32931 := cv_ne (rfl : p0.toInt = p0.toInt) (by decide : (0 : Int32).toInt = 0) c32930
      refine lv_iconst (v := 0) hx hb dX13_outY_17 (by decide) ?_
      have k32932 : (0 : Int32).toInt = 0 := by decide
      exact t_iret hQ X hT (⟨rfl, (by decide)⟩) (Nat.le_of_ble_eq_true rfl) (Nat.le_of_ble_eq_true rfl) dX13_outY_18
    · have w32933 := cv_eq (rfl : p0.toInt = p0.toInt) (by decide : (0 : Int32).toInt = 0) c32930
      refine lv_iconst (v := (-1)) hx hb dX13_outY_13 (by decide) ?_
      refine lv_goto (tgt := 18) hx hb dX13_outY_14 (by decide) ?_
      have k32934 : ((-1) : Int32).toInt = (-1) := by decide
      exact t_iret hQ X hT (⟨rfl, (by decide)⟩) (Nat.le_of_ble_eq_true rfl) (Nat.le_of_ble_eq_true rfl) dX13_outY_18
  · have w32935 := cv_eq (rfl : p0.toInt = p0.toInt) (by decide : (2 : Int32).toInt = 2) c32928
    refine lv_iconst (v := 1) hx hb dX13_outY_5 (by decide) ?_
    refine lv_goto (tgt := 18) hx hb dX13_outY_6 (by decide) ?_
    have k32936 : (1 : Int32).toInt = 1 := by decide
    exact t_iret hQ X hT (⟨rfl, (by decide)⟩) (Nat.le_of_ble_eq_true rfl) (Nat.le_of_ble_eq_true rfl) dX13_outY_18
set_option maxHeartbeats 4000000 in
set_option maxRecDepth 100000 in
theorem km112_X12_isLand (l : Launch) (G : KG) (tag : Nat → Nat) (L : List Nat) (F : Nat → va_E) (ho : okT G ttC tag L F) (p0 : Nat) (p1 : Int32) (p2 : Int32) (m0 : p0 ∈ L) (g0 : tag p0 = 45) : TMi l yX12_isLand cX12_isLand 3 (some .boolean) { frames := 1, cells := 0, slots := 0, locals := 22 } G ttC tag L F [.ref p0, .int p1, .int p2] (fun r F1 => F1 = F ∧ (0 ≤ r.toInt ∧ r.toInt ≤ 1)) := by
  refine t_bodyi (y := yX12_isLand) (cd := cX12_isLand) (mL := 3) (rt := (some .boolean)) (rm := { frames := 1, cells := 0, slots := 0, locals := 22 }) (av := [.ref p0, .int p1, .int p2]) (by decide) (Nat.le_of_ble_eq_true rfl) ho ?_
  intro p e s m args below meth c ls A Q hQ X hT hl
  have hx := X.1.1
  have hb := X.1.2.1
  have hl : lv_has ls 3 [(0, .ref p0), (1, .int p1), (2, .int p2)] := hl
  have rp1 := rg_all p1
  have rp2 := rg_all p2
  refine lv_iload_n hx hb dX12_isLand_0 rfl (lv_at hl 1 rfl) ?_
  refine lv_iconst (v := 0) hx hb dX12_isLand_1 (by decide) ?_
  refine lv_aload_n hx hb dX12_isLand_2 rfl (lv_at hl 0 rfl) ?_
  refine t_get (C := RX12) (T := TX12) (N := 31) X hT m0 g0 rfl rfl 0 (by decide) qw_627 inlX12 rfl dX12_isLand_3 (fun v33236 hv33236 ov33236 => ?_)
  obtain ⟨z33237, rfl, rz33237⟩ := okV_i ov33236
  refine lv_iconst (v := 1) hx hb dX12_isLand_6 (by decide) ?_
  refine lv_isub hx hb dX12_isLand_7 ?_
  refine lv_topi (fun z33238 ez33238 => ?_)
  have hz33238 : z33238.toInt = z33237.toInt - 1 := ar_sub ez33238 (rfl : z33237.toInt = z33237.toInt) (by decide : (1 : Int32).toInt = 1) (by omega) (by omega)
  have rz33238 : 0 ≤ z33238.toInt ∧ z33238.toInt ≤ 11 := by omega
  refine t_cNi (n := 3) (host := "YearSkinsModel") (As := [.int p1, .int 0, .int z33238]) (rest := []) X hT (km19_X13_within l G tag L F hT.2.2.2 p1 0 z33238 ) (List.mem_of_getElem? (i := 9) rfl) qw_569 qw_5 qw_570 ⟨by decide +kernel, by decide +kernel, by decide +kernel⟩ ⟨Nat.le_of_ble_eq_true rfl, Nat.le_of_ble_eq_true rfl⟩ hl rfl rfl (Nat.le_of_ble_eq_true rfl) dX12_isLand_8 ⟨Nat.le_of_ble_eq_true rfl, Nat.le_of_ble_eq_true rfl⟩ (fun z33239 F9 H locs hT hz33239 => ?_)
  obtain ⟨fz33239, hz33239, xz33239_0⟩ := hz33239
  rw [fz33239] at hT
  have k33240 : (0 : Int32).toInt = 0 := by decide
  refine lv_if_eq (tgt := 48) hx hb dX12_isLand_11 (by decide) (fun c33241 => ?_) (fun c33241 => ?_)
  · have w33242 := cv_eq (rfl : z33239.toInt = z33239.toInt) (by decide : (0 : Int32).toInt = 0) c33241
    refine lv_iconst (v := 0) hx hb dX12_isLand_48 (by decide) ?_
    have k33243 : (0 : Int32).toInt = 0 := by decide
    exact t_zret hQ X hT (by decide) (⟨rfl, (by decide)⟩) (Nat.le_of_ble_eq_true rfl) (Nat.le_of_ble_eq_true rfl) dX12_isLand_49
  · have w33244 := cv_ne (rfl : z33239.toInt = z33239.toInt) (by decide : (0 : Int32).toInt = 0) c33241
    have w33245 := xz33239_0 (by omega)
    refine lv_iload_n hx hb dX12_isLand_14 rfl (lv_at hl 2 rfl) ?_
    refine lv_iconst (v := 0) hx hb dX12_isLand_15 (by decide) ?_
    refine lv_aload_n hx hb dX12_isLand_16 rfl (lv_at hl 0 rfl) ?_
    refine t_get (C := RX12) (T := TX12) (N := 31) X hT m0 g0 rfl rfl 1 (by decide) qw_653 inlX12 rfl dX12_isLand_17 (fun v33246 hv33246 ov33246 => ?_)
    obtain ⟨z33247, rfl, rz33247⟩ := okV_i ov33246
    refine lv_iconst (v := 1) hx hb dX12_isLand_20 (by decide) ?_
    refine lv_isub hx hb dX12_isLand_21 ?_
    refine lv_topi (fun z33248 ez33248 => ?_)
    have hz33248 : z33248.toInt = z33247.toInt - 1 := ar_sub ez33248 (rfl : z33247.toInt = z33247.toInt) (by decide : (1 : Int32).toInt = 1) (by omega) (by omega)
    have rz33248 : (-1) ≤ z33248.toInt ∧ z33248.toInt ≤ 11 := by omega
    refine t_cNi (n := 3) (host := "YearSkinsModel") (As := [.int p2, .int 0, .int z33248]) (rest := []) X hT (km19_X13_within l G tag L F hT.2.2.2 p2 0 z33248 ) (List.mem_of_getElem? (i := 9) rfl) qw_569 qw_5 qw_570 ⟨by decide +kernel, by decide +kernel, by decide +kernel⟩ ⟨Nat.le_of_ble_eq_true rfl, Nat.le_of_ble_eq_true rfl⟩ hl rfl rfl (Nat.le_of_ble_eq_true rfl) dX12_isLand_22 ⟨Nat.le_of_ble_eq_true rfl, Nat.le_of_ble_eq_true rfl⟩ (fun z33249 F9 H locs hT hz33249 => ?_)
    obtain ⟨fz33249, hz33249, xz33249_0⟩ := hz33249
    rw [fz33249] at hT
    have k33250 : (0 : Int32).toInt = 0 := by decide
    refine lv_if_eq (tgt := 48) hx hb dX12_isLand_25 (by decide) (fun c33251 => ?_) (fun c33251 => ?_)
    · have w33252 := cv_eq (rfl : z33249.toInt = z33249.toInt) (by decide : (0 : Int32).toInt = 0) c33251
      refine lv_iconst (v := 0) hx hb dX12_isLand_48 (by decide) ?_
      have k33253 : (0 : Int32).toInt = 0 := by decide
      exact t_zret hQ X hT (by decide) (⟨rfl, (by decide)⟩) (Nat.le_of_ble_eq_true rfl) (Nat.le_of_ble_eq_true rfl) dX12_isLand_49
    · have w33254 := cv_ne (rfl : z33249.toInt = z33249.toInt) (by decide : (0 : Int32).toInt = 0) c33251
      have w33255 := xz33249_0 (by omega)
      refine lv_aload_n hx hb dX12_isLand_28 rfl (lv_at hl 0 rfl) ?_
      refine t_get (C := RX12) (T := TX12) (N := 31) X hT m0 g0 rfl rfl 15 (by decide) qw_492 inlX12 rfl dX12_isLand_29 (fun v33256 hv33256 ov33256 => ?_)
      obtain ⟨b33257, rfl, mb33257, gb33257⟩ := okV_r ov33256
      have gb33257 : tag b33257 = 28 := tg_of gb33257
      refine lv_aload_n hx hb dX12_isLand_32 rfl (lv_at hl 0 rfl) ?_
      refine t_get (C := RX12) (T := TX12) (N := 31) X hT m0 g0 rfl rfl 0 (by decide) qw_627 inlX12 rfl dX12_isLand_33 (fun v33258 hv33258 ov33258 => ?_)
      obtain rfl : v33258 = .int z33237 := hv33258.symm.trans hv33236
      refine lv_iload_n hx hb dX12_isLand_36 rfl (lv_at hl 2 rfl) ?_
      refine lv_imul hx hb dX12_isLand_37 ?_
      refine lv_topi (fun z33259 ez33259 => ?_)
      have rz33259 : 0 ≤ z33259.toInt ∧ z33259.toInt ≤ 132 := ar_mulb ez33259 (A := 12) (B := 11) (by omega) (by omega) (by decide) (by decide)
      refine lv_iload_n hx hb dX12_isLand_38 rfl (lv_at hl 1 rfl) ?_
      refine lv_iadd hx hb dX12_isLand_39 ?_
      refine lv_topi (fun z33260 ez33260 => ?_)
      have hz33260 : z33260.toInt = z33259.toInt + p1.toInt := ar_add ez33260 (rfl : z33259.toInt = z33259.toInt) (rfl : p1.toInt = p1.toInt) (by omega) (by omega)
      have rz33260 : 0 ≤ z33260.toInt ∧ z33260.toInt ≤ 143 := by omega
      refine t_zld X hT mb33257 gb33257 rfl (by omega) dX12_isLand_40 (fun z33261 vz33261 rz33261 => ?_)
      have rz33261 : 0 ≤ z33261.toInt ∧ z33261.toInt ≤ 1 := rz33261
      refine lv_if_ne (tgt := 48) hx hb dX12_isLand_41 (by decide) (fun c33262 => ?_) (fun c33262 => ?_)
      · have w33263 := cv_ne (rfl : z33261.toInt = z33261.toInt) (by decide : (0 : Int32).toInt = 0) c33262
        refine lv_iconst (v := 0) hx hb dX12_isLand_48 (by decide) ?_
        have k33264 : (0 : Int32).toInt = 0 := by decide
        exact t_zret hQ X hT (by decide) (⟨rfl, (by decide)⟩) (Nat.le_of_ble_eq_true rfl) (Nat.le_of_ble_eq_true rfl) dX12_isLand_49
      · have w33265 := cv_eq (rfl : z33261.toInt = z33261.toInt) (by decide : (0 : Int32).toInt = 0) c33262
        refine lv_iconst (v := 1) hx hb dX12_isLand_44 (by decide) ?_
        refine lv_goto (tgt := 49) hx hb dX12_isLand_45 (by decide) ?_
        have k33266 : (1 : Int32).toInt = 1 := by decide
        exact t_zret hQ X hT (by decide) (⟨rfl, (by decide)⟩) (Nat.le_of_ble_eq_true rfl) (Nat.le_of_ble_eq_true rfl) dX12_isLand_49
set_option maxHeartbeats 4000000 in
set_option maxRecDepth 100000 in
theorem km113_X13_isFree (l : Launch) (G : KG) (tag : Nat → Nat) (L : List Nat) (F : Nat → va_E) (ho : okT G ttC tag L F) (p0 : Nat) (p1 : Nat) (p2 : Int32) (p3 : Int32) (p4 : Int32) (p5 : Int32) (m0 : p0 ∈ L) (g0 : tag p0 = 45) (m1 : p1 ∈ L) (g1 : tag p1 = 37) (h2 : 0 ≤ p2.toInt ∧ p2.toInt ≤ 3) : TMi l yX13_isFree cX13_isFree 8 (some .boolean) { frames := 3, cells := 0, slots := 0, locals := 71 } G ttC tag L F [.ref p0, .ref p1, .int p2, .int p3, .int p4, .int p5] (fun r F1 => F1 = F ∧ (0 ≤ r.toInt ∧ r.toInt ≤ 1)) := by
  refine t_bodyi (y := yX13_isFree) (cd := cX13_isFree) (mL := 8) (rt := (some .boolean)) (rm := { frames := 3, cells := 0, slots := 0, locals := 71 }) (av := [.ref p0, .ref p1, .int p2, .int p3, .int p4, .int p5]) (by decide) (Nat.le_of_ble_eq_true rfl) ho ?_
  intro p e s m args below meth c ls A Q hQ X hT hl
  have hx := X.1.1
  have hb := X.1.2.1
  have hl : lv_has ls 8 [(0, .ref p0), (1, .ref p1), (2, .int p2), (3, .int p3), (4, .int p4), (5, .int p5)] := hl
  have rp3 := rg_all p3
  have rp4 := rg_all p4
  have rp5 := rg_all p5
  refine lv_aload_n hx hb dX13_isFree_0 rfl (lv_at hl 0 rfl) ?_
  refine lv_iload_n hx hb dX13_isFree_1 rfl (lv_at hl 2 rfl) ?_
  refine t_cVi (n := 1) (C := RX12) (T := TX12) (N := 31) (As := [.int p2]) (rest := []) X hT (km89_X12_x l G tag L F hT.2.2.2 p0 p2 m0 g0 (by omega)) m0 g0 rfl rfl qw_648 qw_624 qw_625 qw_476 qw_626 ⟨rfl, by decide +kernel, by decide +kernel, by decide +kernel⟩ ⟨Nat.le_of_ble_eq_true rfl, Nat.le_of_ble_eq_true rfl⟩ hl rfl rfl (Nat.le_of_ble_eq_true rfl) dX13_isFree_2 ⟨Nat.le_of_ble_eq_true rfl, Nat.le_of_ble_eq_true rfl⟩ (fun z33455 F9 H locs hT hz33455 => ?_)
  obtain ⟨fz33455, hz33455⟩ := hz33455
  rw [fz33455] at hT
  refine lv_iload_n hx hb dX13_isFree_5 rfl (lv_at hl 3 rfl) ?_
  refine lv_iload hx hb dX13_isFree_6 (lv_at hl 4 rfl) ?_
  refine lv_iload hx hb dX13_isFree_8 (lv_at hl 5 rfl) ?_
  refine t_cSi (n := 3) (As := [.int p3, .int p4, .int p5]) (rest := [.int z33455]) X hT (km108_X13_doorX l G tag L F hT.2.2.2 p3 p4 p5 ) qw_807 qw_808 qw_5 qw_809 ⟨by decide +kernel, by decide +kernel, by decide +kernel⟩ ⟨Nat.le_of_ble_eq_true rfl, Nat.le_of_ble_eq_true rfl⟩ hl rfl rfl (Nat.le_of_ble_eq_true rfl) dX13_isFree_10 ⟨Nat.le_of_ble_eq_true rfl, Nat.le_of_ble_eq_true rfl⟩ (fun z33456 F9 H locs hT hz33456 => ?_)
  obtain ⟨fz33456, hz33456⟩ := hz33456
  rw [fz33456] at hT
  refine lv_iadd hx hb dX13_isFree_13 ?_
  refine lv_topi (fun z33457 ez33457 => ?_)
  have rz33457 := rg_all z33457
  refine lv_iload hx hb dX13_isFree_14 (lv_at hl 4 rfl) ?_
  refine t_cSi (n := 1) (As := [.int p4]) (rest := [.int z33457]) X hT (km109_X13_outX l G tag L F hT.2.2.2 p4 ) qw_810 qw_811 qw_5 qw_812 ⟨by decide +kernel, by decide +kernel, by decide +kernel⟩ ⟨Nat.le_of_ble_eq_true rfl, Nat.le_of_ble_eq_true rfl⟩ hl rfl rfl (Nat.le_of_ble_eq_true rfl) dX13_isFree_16 ⟨Nat.le_of_ble_eq_true rfl, Nat.le_of_ble_eq_true rfl⟩ (fun z33458 F9 H locs hT hz33458 => ?_)
  obtain ⟨fz33458, hz33458⟩ := hz33458
  rw [fz33458] at hT
  refine lv_iadd hx hb dX13_isFree_19 ?_
  refine lv_topi (fun z33459 ez33459 => ?_)
  have rz33459 := rg_all z33459
  refine lv_istore (lv' := [(6, .int z33459), (0, .ref p0), (1, .ref p1), (2, .int p2), (3, .int p3), (4, .int p4), (5, .int p5)]) hx hb dX13_isFree_20 hl (by decide) rfl (fun ls hl => ?_)
  refine lv_aload_n hx hb dX13_isFree_22 rfl (lv_at hl 1 rfl) ?_
  refine lv_iload_n hx hb dX13_isFree_23 rfl (lv_at hl 3 rfl) ?_
  refine t_cVi (n := 1) (C := RX12) (T := TX12) (N := 31) (As := [.int p2]) (rest := []) X hT (km90_X12_y l G tag L F hT.2.2.2 p0 p2 m0 g0 (by omega)) m0 g0 rfl rfl qw_647 qw_629 qw_630 qw_476 qw_631 ⟨rfl, by decide +kernel, by decide +kernel, by decide +kernel⟩ ⟨Nat.le_of_ble_eq_true rfl, Nat.le_of_ble_eq_true rfl⟩ hl rfl rfl (Nat.le_of_ble_eq_true rfl) dX13_isFree_24 ⟨Nat.le_of_ble_eq_true rfl, Nat.le_of_ble_eq_true rfl⟩ (fun z33460 F9 H locs hT hz33460 => ?_)
  obtain ⟨fz33460, hz33460⟩ := hz33460
  rw [fz33460] at hT
  refine lv_iload_n hx hb dX13_isFree_27 rfl (lv_at hl 4 rfl) ?_
  refine lv_iload hx hb dX13_isFree_28 (lv_at hl 5 rfl) ?_
  refine lv_iload hx hb dX13_isFree_30 (lv_at hl 6 rfl) ?_
  refine t_cSi (n := 3) (As := [.int p3, .int p4, .int p5]) (rest := [.int z33460]) X hT (km110_X13_doorY l G tag L F hT.2.2.2 p3 p4 p5 ) qw_813 qw_814 qw_5 qw_815 ⟨by decide +kernel, by decide +kernel, by decide +kernel⟩ ⟨Nat.le_of_ble_eq_true rfl, Nat.le_of_ble_eq_true rfl⟩ hl rfl rfl (Nat.le_of_ble_eq_true rfl) dX13_isFree_32 ⟨Nat.le_of_ble_eq_true rfl, Nat.le_of_ble_eq_true rfl⟩ (fun z33461 F9 H locs hT hz33461 => ?_)
  obtain ⟨fz33461, hz33461⟩ := hz33461
  rw [fz33461] at hT
  refine lv_iadd hx hb dX13_isFree_35 ?_
  refine lv_topi (fun z33462 ez33462 => ?_)
  have rz33462 := rg_all z33462
  refine lv_iload hx hb dX13_isFree_36 (lv_at hl 5 rfl) ?_
  refine t_cSi (n := 1) (As := [.int p4]) (rest := [.int z33462]) X hT (km111_X13_outY l G tag L F hT.2.2.2 p4 ) qw_816 qw_817 qw_5 qw_818 ⟨by decide +kernel, by decide +kernel, by decide +kernel⟩ ⟨Nat.le_of_ble_eq_true rfl, Nat.le_of_ble_eq_true rfl⟩ hl rfl rfl (Nat.le_of_ble_eq_true rfl) dX13_isFree_38 ⟨Nat.le_of_ble_eq_true rfl, Nat.le_of_ble_eq_true rfl⟩ (fun z33463 F9 H locs hT hz33463 => ?_)
  obtain ⟨fz33463, hz33463⟩ := hz33463
  rw [fz33463] at hT
  refine lv_iadd hx hb dX13_isFree_41 ?_
  refine lv_topi (fun z33464 ez33464 => ?_)
  have rz33464 := rg_all z33464
  refine lv_istore (lv' := [(7, .int z33464), (6, .int z33459), (0, .ref p0), (1, .ref p1), (2, .int p2), (3, .int p3), (4, .int p4), (5, .int p5)]) hx hb dX13_isFree_42 hl (by decide) rfl (fun ls hl => ?_)
  refine lv_aload_n hx hb dX13_isFree_44 rfl (lv_at hl 2 rfl) ?_
  refine lv_iload hx hb dX13_isFree_45 (lv_at hl 1 rfl) ?_
  refine lv_iload hx hb dX13_isFree_47 (lv_at hl 0 rfl) ?_
  refine t_cVi (n := 2) (C := RX12) (T := TX12) (N := 31) (As := [.int z33459, .int z33464]) (rest := []) X hT (km112_X12_isLand l G tag L F hT.2.2.2 p0 z33459 z33464 m0 g0) m0 g0 rfl rfl qw_649 qw_650 qw_651 qw_476 qw_652 ⟨rfl, by decide +kernel, by decide +kernel, by decide +kernel⟩ ⟨Nat.le_of_ble_eq_true rfl, Nat.le_of_ble_eq_true rfl⟩ hl rfl rfl (Nat.le_of_ble_eq_true rfl) dX13_isFree_49 ⟨Nat.le_of_ble_eq_true rfl, Nat.le_of_ble_eq_true rfl⟩ (fun z33465 F9 H locs hT hz33465 => ?_)
  obtain ⟨fz33465, hz33465⟩ := hz33465
  rw [fz33465] at hT
  refine lv_if_eq (tgt := 71) hx hb dX13_isFree_52 (by decide) (fun c33466 => ?_) (fun c33466 => ?_)
  · have w33467 := cv_eq (rfl : z33465.toInt = z33465.toInt) (by decide : (0 : Int32).toInt = 0) c33466
    refine lv_iconst (v := 0) hx hb dX13_isFree_71 (by decide) ?_
    have k33468 : (0 : Int32).toInt = 0 := by decide
    exact t_zret hQ X hT (by decide) (⟨rfl, (by decide)⟩) (Nat.le_of_ble_eq_true rfl) (Nat.le_of_ble_eq_true rfl) dX13_isFree_72
  · have w33469 := cv_ne (rfl : z33465.toInt = z33465.toInt) (by decide : (0 : Int32).toInt = 0) c33466
    refine lv_aload_n hx hb dX13_isFree_55 rfl (lv_at hl 2 rfl) ?_
    refine lv_aload_n hx hb dX13_isFree_56 rfl (lv_at hl 3 rfl) ?_
    refine lv_iload hx hb dX13_isFree_57 (lv_at hl 1 rfl) ?_
    refine lv_iload hx hb dX13_isFree_59 (lv_at hl 0 rfl) ?_
    refine t_cSi (n := 4) (As := [.ref p0, .ref p1, .int z33459, .int z33464]) (rest := []) X hT (km92_X13_ownersOf l G tag L F hT.2.2.2 p0 p1 z33459 z33464 m0 g0 m1 g1) qw_616 qw_617 qw_5 qw_618 ⟨by decide +kernel, by decide +kernel, by decide +kernel⟩ ⟨Nat.le_of_ble_eq_true rfl, Nat.le_of_ble_eq_true rfl⟩ hl rfl rfl (Nat.le_of_ble_eq_true rfl) dX13_isFree_61 ⟨Nat.le_of_ble_eq_true rfl, Nat.le_of_ble_eq_true rfl⟩ (fun z33470 F9 H locs hT hz33470 => ?_)
    obtain ⟨fz33470, hz33470⟩ := hz33470
    rw [fz33470] at hT
    refine lv_if_ne (tgt := 71) hx hb dX13_isFree_64 (by decide) (fun c33471 => ?_) (fun c33471 => ?_)
    · have w33472 := cv_ne (rfl : z33470.toInt = z33470.toInt) (by decide : (0 : Int32).toInt = 0) c33471
      refine lv_iconst (v := 0) hx hb dX13_isFree_71 (by decide) ?_
      have k33473 : (0 : Int32).toInt = 0 := by decide
      exact t_zret hQ X hT (by decide) (⟨rfl, (by decide)⟩) (Nat.le_of_ble_eq_true rfl) (Nat.le_of_ble_eq_true rfl) dX13_isFree_72
    · have w33474 := cv_eq (rfl : z33470.toInt = z33470.toInt) (by decide : (0 : Int32).toInt = 0) c33471
      refine lv_iconst (v := 1) hx hb dX13_isFree_67 (by decide) ?_
      refine lv_goto (tgt := 72) hx hb dX13_isFree_68 (by decide) ?_
      have k33475 : (1 : Int32).toInt = 1 := by decide
      exact t_zret hQ X hT (by decide) (⟨rfl, (by decide)⟩) (Nat.le_of_ble_eq_true rfl) (Nat.le_of_ble_eq_true rfl) dX13_isFree_72
set_option maxHeartbeats 4000000 in
set_option maxRecDepth 100000 in
theorem km114_X13_isShut (l : Launch) (G : KG) (tag : Nat → Nat) (L : List Nat) (F : Nat → va_E) (ho : okT G ttC tag L F) (p0 : Nat) (p1 : Nat) (p2 : Int32) (x0 : Nat) (m0 : p0 ∈ L) (g0 : tag p0 = 46) (m1 : p1 ∈ L) (g1 : tag p1 = 37) (h2 : 0 ≤ p2.toInt ∧ p2.toInt ≤ 3) (mx0 : x0 ∈ L) (gx0 : tag x0 = 45) (pf0 : fld F p0 3 = .ref x0) : TMi l yX13_isShut cX13_isShut 4 (some .boolean) { frames := 4, cells := 0, slots := 0, locals := 98 } G ttC tag L F [.ref p0, .ref p1, .int p2] (fun r F1 => F1 = F ∧ (0 ≤ r.toInt ∧ r.toInt ≤ 1)) := by
  refine t_bodyi (y := yX13_isShut) (cd := cX13_isShut) (mL := 4) (rt := (some .boolean)) (rm := { frames := 4, cells := 0, slots := 0, locals := 98 }) (av := [.ref p0, .ref p1, .int p2]) (by decide) (Nat.le_of_ble_eq_true rfl) ho ?_
  intro p e s m args below meth c ls A Q hQ X hT hl
  have hx := X.1.1
  have hb := X.1.2.1
  have hl : lv_has ls 4 [(0, .ref p0), (1, .ref p1), (2, .int p2)] := hl
  refine lv_aload_n hx hb dX13_isShut_0 rfl (lv_at hl 1 rfl) ?_
  refine lv_iconst (v := 0) hx hb dX13_isShut_1 (by decide) ?_
  refine lv_iload_n hx hb dX13_isShut_2 rfl (lv_at hl 2 rfl) ?_
  refine lv_iadd hx hb dX13_isShut_3 ?_
  refine lv_topi (fun z33640 ez33640 => ?_)
  obtain rfl : p2 = z33640 := (ar_zadd ez33640).symm
  refine t_ild X hT m1 g1 rfl (by omega) dX13_isShut_4 (fun z33641 vz33641 rz33641 => ?_)
  have rz33641 := row_ml (by omega) rz33641
  refine lv_istore_n (lv' := [(3, .int z33641), (0, .ref p0), (1, .ref p1), (2, .int p2)]) hx hb dX13_isShut_5 rfl hl (by decide) rfl (fun ls hl => ?_)
  refine lv_iload_n hx hb dX13_isShut_6 rfl (lv_at hl 0 rfl) ?_
  refine lv_if_le (tgt := 43) hx hb dX13_isShut_7 (by decide) (fun c33642 => ?_) (fun c33642 => ?_)
  · have w33643 := cv_le (rfl : z33641.toInt = z33641.toInt) (by decide : (0 : Int32).toInt = 0) c33642
    refine lv_iconst (v := 0) hx hb dX13_isShut_43 (by decide) ?_
    have k33644 : (0 : Int32).toInt = 0 := by decide
    exact t_zret hQ X hT (by decide) (⟨rfl, (by decide)⟩) (Nat.le_of_ble_eq_true rfl) (Nat.le_of_ble_eq_true rfl) dX13_isShut_44
  · have w33645 := cv_nle (rfl : z33641.toInt = z33641.toInt) (by decide : (0 : Int32).toInt = 0) c33642
    refine lv_aload_n hx hb dX13_isShut_10 rfl (lv_at hl 1 rfl) ?_
    refine t_get (C := RX13) (T := TX13) (N := 37) X hT m0 g0 rfl rfl 3 (by decide) qw_481 inlX13 rfl dX13_isShut_11 (fun v33646 hv33646 ov33646 => ?_)
    obtain rfl : v33646 = .ref x0 := hv33646.symm.trans pf0
    refine lv_aload_n hx hb dX13_isShut_14 rfl (lv_at hl 2 rfl) ?_
    refine lv_iload_n hx hb dX13_isShut_15 rfl (lv_at hl 3 rfl) ?_
    refine lv_iload_n hx hb dX13_isShut_16 rfl (lv_at hl 0 rfl) ?_
    refine lv_aload_n hx hb dX13_isShut_17 rfl (lv_at hl 2 rfl) ?_
    refine lv_iload_n hx hb dX13_isShut_18 rfl (lv_at hl 3 rfl) ?_
    refine lv_iload_n hx hb dX13_isShut_19 rfl (lv_at hl 0 rfl) ?_
    refine lv_iconst (v := 1) hx hb dX13_isShut_20 (by decide) ?_
    refine t_cSi (n := 3) (As := [.int p2, .int z33641, .int 1]) (rest := [.ref p1, .int z33641, .int p2, .ref p1, .ref x0]) X hT (km49_X13_part l G tag L F hT.2.2.2 p2 z33641 1 (by omega) (by omega) (by decide)) qw_661 qw_662 qw_5 qw_663 ⟨by decide +kernel, by decide +kernel, by decide +kernel⟩ ⟨Nat.le_of_ble_eq_true rfl, Nat.le_of_ble_eq_true rfl⟩ hl rfl rfl (Nat.le_of_ble_eq_true rfl) dX13_isShut_21 ⟨Nat.le_of_ble_eq_true rfl, Nat.le_of_ble_eq_true rfl⟩ (fun z33647 F9 H locs hT hz33647 => ?_)
    obtain ⟨fz33647, hz33647, xz33647_0⟩ := hz33647
    rw [fz33647] at hT
    have k33648 : (1 : Int32).toInt = 1 := by decide
    refine t_ild X hT m1 g1 rfl (by omega) dX13_isShut_24 (fun z33649 vz33649 rz33649 => ?_)
    have oz33649 := rz33649
    have rz33649 := rg_all z33649
    refine lv_aload_n hx hb dX13_isShut_25 rfl (lv_at hl 2 rfl) ?_
    refine lv_iload_n hx hb dX13_isShut_26 rfl (lv_at hl 3 rfl) ?_
    refine lv_iload_n hx hb dX13_isShut_27 rfl (lv_at hl 0 rfl) ?_
    refine lv_iconst (v := 2) hx hb dX13_isShut_28 (by decide) ?_
    refine t_cSi (n := 3) (As := [.int p2, .int z33641, .int 2]) (rest := [.ref p1, .int z33649, .int z33641, .int p2, .ref p1, .ref x0]) X hT (km49_X13_part l G tag L F hT.2.2.2 p2 z33641 2 (by omega) (by omega) (by decide)) qw_661 qw_662 qw_5 qw_663 ⟨by decide +kernel, by decide +kernel, by decide +kernel⟩ ⟨Nat.le_of_ble_eq_true rfl, Nat.le_of_ble_eq_true rfl⟩ hl rfl rfl (Nat.le_of_ble_eq_true rfl) dX13_isShut_29 ⟨Nat.le_of_ble_eq_true rfl, Nat.le_of_ble_eq_true rfl⟩ (fun z33650 F9 H locs hT hz33650 => ?_)
    obtain ⟨fz33650, hz33650, xz33650_0⟩ := hz33650
    rw [fz33650] at hT
    have k33651 : (2 : Int32).toInt = 2 := by decide
    refine t_ild X hT m1 g1 rfl (by omega) dX13_isShut_32 (fun z33652 vz33652 rz33652 => ?_)
    have oz33652 := rz33652
    have rz33652 := rg_all z33652
    refine t_cSi (n := 6) (As := [.ref x0, .ref p1, .int p2, .int z33641, .int z33649, .int z33652]) (rest := []) X hT (km113_X13_isFree l G tag L F hT.2.2.2 x0 p1 p2 z33641 z33649 z33652 mx0 gx0 m1 g1 (by omega)) qw_804 qw_805 qw_5 qw_806 ⟨by decide +kernel, by decide +kernel, by decide +kernel⟩ ⟨Nat.le_of_ble_eq_true rfl, Nat.le_of_ble_eq_true rfl⟩ hl rfl rfl (Nat.le_of_ble_eq_true rfl) dX13_isShut_33 ⟨Nat.le_of_ble_eq_true rfl, Nat.le_of_ble_eq_true rfl⟩ (fun z33653 F9 H locs hT hz33653 => ?_)
    obtain ⟨fz33653, hz33653⟩ := hz33653
    rw [fz33653] at hT
    refine lv_if_ne (tgt := 43) hx hb dX13_isShut_36 (by decide) (fun c33654 => ?_) (fun c33654 => ?_)
    · have w33655 := cv_ne (rfl : z33653.toInt = z33653.toInt) (by decide : (0 : Int32).toInt = 0) c33654
      refine lv_iconst (v := 0) hx hb dX13_isShut_43 (by decide) ?_
      have k33656 : (0 : Int32).toInt = 0 := by decide
      exact t_zret hQ X hT (by decide) (⟨rfl, (by decide)⟩) (Nat.le_of_ble_eq_true rfl) (Nat.le_of_ble_eq_true rfl) dX13_isShut_44
    · have w33657 := cv_eq (rfl : z33653.toInt = z33653.toInt) (by decide : (0 : Int32).toInt = 0) c33654
      refine lv_iconst (v := 1) hx hb dX13_isShut_39 (by decide) ?_
      refine lv_goto (tgt := 44) hx hb dX13_isShut_40 (by decide) ?_
      have k33658 : (1 : Int32).toInt = 1 := by decide
      exact t_zret hQ X hT (by decide) (⟨rfl, (by decide)⟩) (Nat.le_of_ble_eq_true rfl) (Nat.le_of_ble_eq_true rfl) dX13_isShut_44
set_option maxHeartbeats 4000000 in
set_option maxRecDepth 100000 in
theorem km115_X13_house (l : Launch) (G : KG) (tag : Nat → Nat) (L : List Nat) (Fo : Nat → va_E) (ho : okT G ttC tag L Fo) (p0 : Nat) (p1 : Int32) (p2 : Int32) (x0 : Nat) (m0 : p0 ∈ L) (g0 : tag p0 = 46) (mx0 : x0 ∈ L) (gx0 : tag x0 = 45) (pf0 : fld Fo p0 3 = .ref x0) : TMi l yX13_house cX13_house 3 (some .int) { frames := 5, cells := 0, slots := 0, locals := 121 } G ttC tag L Fo [.ref p0, .int p1, .int p2] (fun r F1 => ((-2147483648) ≤ r.toInt ∧ r.toInt ≤ 2147483647) ∧ ((∀ b j : Nat, (tag b ≠ 46 ∨ j ≠ 0) → (tag b ≠ 46 ∨ j ≠ 1) → (tag b ≠ 46 ∨ j ≠ 2) → fld F1 b j = fld Fo b j) ∧ (∀ b j : Nat, elm F1 b j = elm Fo b j))) := by
  refine t_bodyi (y := yX13_house) (cd := cX13_house) (mL := 3) (rt := (some .int)) (rm := { frames := 5, cells := 0, slots := 0, locals := 121 }) (av := [.ref p0, .int p1, .int p2]) (by decide) (Nat.le_of_ble_eq_true rfl) ho ?_
  intro p e s m args below meth c ls A Q hQ X hT hl
  have hx := X.1.1
  have hb := X.1.2.1
  have hl : lv_has ls 3 [(0, .ref p0), (1, .int p1), (2, .int p2)] := hl
  have rp1 := rg_all p1
  have rp2 := rg_all p2
  obtain ⟨F, hFo⟩ : ∃ F : Nat → va_E, F = Fo := ⟨_, rfl⟩
  rw [← hFo] at hT pf0
  have hfr : (∀ b j : Nat, (tag b ≠ 46 ∨ j ≠ 0) → (tag b ≠ 46 ∨ j ≠ 1) → (tag b ≠ 46 ∨ j ≠ 2) → fld F b j = fld Fo b j) ∧ (∀ b j : Nat, elm F b j = elm Fo b j) := by
    rw [hFo]
    exact ⟨by intros; rfl, by intros; rfl⟩
  refine lv_aload_n hx hb dX13_house_0 rfl (lv_at hl 0 rfl) ?_
  refine lv_iconst (v := 0) hx hb dX13_house_1 (by decide) ?_
  refine t_put (C := RX13) (T := TX13) (N := 37) (v := .int 0) X hT m0 g0 rfl tyX13 tyX13_ok nmX13 rfl 0 (by decide) qw_140 inlX13 rfl (by first | rfl | decide) (by first | rfl | decide) rfl (⟨_, rfl, (show (-2147483648) ≤ (0 : Int32).toInt from (by decide)), (show (0 : Int32).toInt ≤ 2147483647 from (by decide))⟩) dX13_house_2 (fun F H locs hT v34592 h1v34592 h2v34592 => ?_)
  have pf0 := (h1v34592 _ _ (Or.inr (by decide))).trans pf0
  have hfr : (∀ b j : Nat, (tag b ≠ 46 ∨ j ≠ 0) → (tag b ≠ 46 ∨ j ≠ 1) → (tag b ≠ 46 ∨ j ≠ 2) → fld F b j = fld Fo b j) ∧ (∀ b j : Nat, elm F b j = elm Fo b j) := ⟨fun b j n46_0 n46_1 n46_2 => (h1v34592 b j (fr_ne g0 n46_0)).trans (hfr.1 b j n46_0 n46_1 n46_2), fun b j  => (h2v34592 b j).trans (hfr.2 b j )⟩
  refine lv_aload_n hx hb dX13_house_5 rfl (lv_at hl 0 rfl) ?_
  refine lv_iload_n hx hb dX13_house_6 rfl (lv_at hl 1 rfl) ?_
  refine t_cVi (n := 1) (C := RX13) (T := TX13) (N := 37) (As := [.int p1]) (rest := []) X hT (km107_X13_isHouse l G tag L F hT.2.2.2 p0 p1 x0 m0 g0 mx0 gx0 pf0) m0 g0 rfl rfl qw_796 qw_797 qw_798 qw_5 qw_799 ⟨rfl, by decide +kernel, by decide +kernel, by decide +kernel⟩ ⟨Nat.le_of_ble_eq_true rfl, Nat.le_of_ble_eq_true rfl⟩ hl rfl rfl (Nat.le_of_ble_eq_true rfl) dX13_house_7 ⟨Nat.le_of_ble_eq_true rfl, Nat.le_of_ble_eq_true rfl⟩ (fun z34593 F9 H locs hT hz34593 => ?_)
  obtain ⟨fz34593, hz34593⟩ := hz34593
  rw [fz34593] at hT
  obtain ⟨hz34593, iz34593⟩ := hz34593
  refine lv_if_eq (tgt := 23) hx hb dX13_house_10 (by decide) (fun c34594 => ?_) (fun c34594 => ?_)
  · have w34595 := cv_eq (rfl : z34593.toInt = z34593.toInt) (by decide : (0 : Int32).toInt = 0) c34594
    refine lv_aload_n hx hb dX13_house_23 rfl (lv_at hl 0 rfl) ?_
    refine lv_iconst (v := 1) hx hb dX13_house_24 (by decide) ?_
    refine t_cVi (n := 1) (C := RX13) (T := TX13) (N := 37) (As := [.int 1]) (rest := []) X hT (km88_X13_refused l G tag L F hT.2.2.2 p0 1 m0 g0) m0 g0 rfl rfl qw_484 qw_485 qw_486 qw_5 qw_487 ⟨rfl, by decide +kernel, by decide +kernel, by decide +kernel⟩ ⟨Nat.le_of_ble_eq_true rfl, Nat.le_of_ble_eq_true rfl⟩ hl rfl rfl (Nat.le_of_ble_eq_true rfl) dX13_house_25 ⟨Nat.le_of_ble_eq_true rfl, Nat.le_of_ble_eq_true rfl⟩ (fun z34596 F H locs hT hz34596 => ?_)
    obtain ⟨hz34596, yz34596⟩ := hz34596
    have pf0 := (yz34596.1 _ 3 (Or.inr (by decide)) (Or.inr (by decide))).trans pf0
    have v34592 := (yz34596.1 _ 0 (Or.inr (by decide)) (Or.inr (by decide))).trans v34592
    have hfr : (∀ b j : Nat, (tag b ≠ 46 ∨ j ≠ 0) → (tag b ≠ 46 ∨ j ≠ 1) → (tag b ≠ 46 ∨ j ≠ 2) → fld F b j = fld Fo b j) ∧ (∀ b j : Nat, elm F b j = elm Fo b j) := ⟨fun b j n46_0 n46_1 n46_2 => (yz34596.1 b j n46_1 n46_2).trans (hfr.1 b j n46_0 n46_1 n46_2), fun b j  => (yz34596.2 b j ).trans (hfr.2 b j )⟩
    exact t_iret hQ X hT (⟨rg_all _, hfr⟩) (Nat.le_of_ble_eq_true rfl) (Nat.le_of_ble_eq_true rfl) dX13_house_28
  · have w34597 := cv_ne (rfl : z34593.toInt = z34593.toInt) (by decide : (0 : Int32).toInt = 0) c34594
    have w34598 := (fun h => (iz34593 h)) (by omega)
    refine lv_iload_n hx hb dX13_house_13 rfl (lv_at hl 2 rfl) ?_
    refine lv_iconst (v := 0) hx hb dX13_house_14 (by decide) ?_
    refine lv_bipush (v := 6) hx hb dX13_house_15 (by decide) ?_
    refine t_cSi (n := 3) (As := [.int p2, .int 0, .int 6]) (rest := []) X hT (km19_X13_within l G tag L F hT.2.2.2 p2 0 6 ) qw_568 qw_569 qw_5 qw_570 ⟨by decide +kernel, by decide +kernel, by decide +kernel⟩ ⟨Nat.le_of_ble_eq_true rfl, Nat.le_of_ble_eq_true rfl⟩ hl rfl rfl (Nat.le_of_ble_eq_true rfl) dX13_house_17 ⟨Nat.le_of_ble_eq_true rfl, Nat.le_of_ble_eq_true rfl⟩ (fun z34599 F9 H locs hT hz34599 => ?_)
    obtain ⟨fz34599, hz34599, xz34599_0⟩ := hz34599
    rw [fz34599] at hT
    have k34600 : (0 : Int32).toInt = 0 := by decide
    have k34601 : (6 : Int32).toInt = 6 := by decide
    refine lv_if_ne (tgt := 29) hx hb dX13_house_20 (by decide) (fun c34602 => ?_) (fun c34602 => ?_)
    · have w34603 := cv_ne (rfl : z34599.toInt = z34599.toInt) (by decide : (0 : Int32).toInt = 0) c34602
      have w34604 := xz34599_0 (by omega)
      refine lv_iload_n hx hb dX13_house_29 rfl (lv_at hl 2 rfl) ?_
      by_cases c34605 : p2 = 0
      · have w34606 := cv_eq (rfl : p2.toInt = p2.toInt) (by decide : (0 : Int32).toInt = 0) c34605
        refine lv_tableIn (off := 38) (tgt := 68) hx hb dX13_house_30 (by rw [c34605]; decide) (by rw [c34605]; decide) (by rw [c34605]; decide) (by decide) ?_
        refine lv_aload_n hx hb dX13_house_68 rfl (lv_at hl 0 rfl) ?_
        refine lv_aload_n hx hb dX13_house_69 rfl (lv_at hl 0 rfl) ?_
        refine t_get (C := RX13) (T := TX13) (N := 37) X hT m0 g0 rfl rfl 3 (by decide) qw_481 inlX13 rfl dX13_house_70 (fun v34607 hv34607 ov34607 => ?_)
        obtain rfl : v34607 = .ref x0 := hv34607.symm.trans pf0
        refine t_getN (C := RX12) (T := TX12) (N := 31) X hT mx0 gx0 rfl rfl 21 (by decide) (List.mem_of_getElem? (i := 25) rfl) inlX12 rfl dX13_house_73 (fun v34608 hv34608 ov34608 => ?_)
        obtain ⟨b34609, rfl, mb34609, gb34609⟩ := okV_r ov34608
        have gb34609 : tag b34609 = 30 := tg_of gb34609
        refine lv_iload_n hx hb dX13_house_76 rfl (lv_at hl 1 rfl) ?_
        refine t_ild X hT mb34609 gb34609 rfl (by omega) dX13_house_77 (fun z34610 vz34610 rz34610 => ?_)
        have rz34610 : 0 ≤ z34610.toInt ∧ z34610.toInt ≤ 143 := rz34610
        refine t_cVi (n := 1) (C := RX13) (T := TX13) (N := 37) (As := [.int z34610]) (rest := []) X hT (km93_X13_good l G tag L F hT.2.2.2 p0 z34610 m0 g0) m0 g0 rfl rfl qw_687 qw_688 qw_689 qw_5 qw_690 ⟨rfl, by decide +kernel, by decide +kernel, by decide +kernel⟩ ⟨Nat.le_of_ble_eq_true rfl, Nat.le_of_ble_eq_true rfl⟩ hl rfl rfl (Nat.le_of_ble_eq_true rfl) dX13_house_78 ⟨Nat.le_of_ble_eq_true rfl, Nat.le_of_ble_eq_true rfl⟩ (fun z34611 F H locs hT hz34611 => ?_)
        obtain ⟨hz34611, yz34611⟩ := hz34611
        have pf0 := (yz34611.1 _ 3 (Or.inr (by decide)) (Or.inr (by decide))).trans pf0
        have v34592 := (yz34611.1 _ 0 (Or.inr (by decide)) (Or.inr (by decide))).trans v34592
        have hv34608 := (yz34611.1 _ 21 (Or.inr (by decide)) (Or.inr (by decide))).trans hv34608
        have vz34610 := (yz34611.2 _ _ ).trans vz34610
        have hfr : (∀ b j : Nat, (tag b ≠ 46 ∨ j ≠ 0) → (tag b ≠ 46 ∨ j ≠ 1) → (tag b ≠ 46 ∨ j ≠ 2) → fld F b j = fld Fo b j) ∧ (∀ b j : Nat, elm F b j = elm Fo b j) := ⟨fun b j n46_0 n46_1 n46_2 => (yz34611.1 b j n46_1 n46_2).trans (hfr.1 b j n46_0 n46_1 n46_2), fun b j  => (yz34611.2 b j ).trans (hfr.2 b j )⟩
        exact t_iret hQ X hT (⟨rg_all _, hfr⟩) (Nat.le_of_ble_eq_true rfl) (Nat.le_of_ble_eq_true rfl) dX13_house_81
      have w34612 := cv_ne (rfl : p2.toInt = p2.toInt) (by decide : (0 : Int32).toInt = 0) c34605
      by_cases c34613 : p2 = 1
      · have w34614 := cv_eq (rfl : p2.toInt = p2.toInt) (by decide : (1 : Int32).toInt = 1) c34613
        refine lv_tableIn (off := 52) (tgt := 82) hx hb dX13_house_30 (by rw [c34613]; decide) (by rw [c34613]; decide) (by rw [c34613]; decide) (by decide) ?_
        refine lv_aload_n hx hb dX13_house_82 rfl (lv_at hl 0 rfl) ?_
        refine lv_aload_n hx hb dX13_house_83 rfl (lv_at hl 0 rfl) ?_
        refine t_get (C := RX13) (T := TX13) (N := 37) X hT m0 g0 rfl rfl 16 (by decide) qw_112 inlX13 rfl dX13_house_84 (fun v34615 hv34615 ov34615 => ?_)
        obtain ⟨b34616, rfl, mb34616, gb34616⟩ := okV_r ov34615
        have gb34616 : tag b34616 = 37 := tg_of gb34616
        refine lv_iconst (v := 0) hx hb dX13_house_87 (by decide) ?_
        refine lv_iload_n hx hb dX13_house_88 rfl (lv_at hl 1 rfl) ?_
        refine lv_iadd hx hb dX13_house_89 ?_
        refine lv_topi (fun z34617 ez34617 => ?_)
        obtain rfl : p1 = z34617 := (ar_zadd ez34617).symm
        refine t_ild X hT mb34616 gb34616 rfl (by omega) dX13_house_90 (fun z34618 vz34618 rz34618 => ?_)
        have rz34618 := row_ml (by omega) rz34618
        refine t_cVi (n := 1) (C := RX13) (T := TX13) (N := 37) (As := [.int z34618]) (rest := []) X hT (km93_X13_good l G tag L F hT.2.2.2 p0 z34618 m0 g0) m0 g0 rfl rfl qw_687 qw_688 qw_689 qw_5 qw_690 ⟨rfl, by decide +kernel, by decide +kernel, by decide +kernel⟩ ⟨Nat.le_of_ble_eq_true rfl, Nat.le_of_ble_eq_true rfl⟩ hl rfl rfl (Nat.le_of_ble_eq_true rfl) dX13_house_91 ⟨Nat.le_of_ble_eq_true rfl, Nat.le_of_ble_eq_true rfl⟩ (fun z34619 F H locs hT hz34619 => ?_)
        obtain ⟨hz34619, yz34619⟩ := hz34619
        have pf0 := (yz34619.1 _ 3 (Or.inr (by decide)) (Or.inr (by decide))).trans pf0
        have v34592 := (yz34619.1 _ 0 (Or.inr (by decide)) (Or.inr (by decide))).trans v34592
        have hv34615 := (yz34619.1 _ 16 (Or.inr (by decide)) (Or.inr (by decide))).trans hv34615
        have vz34618 := (yz34619.2 _ _ ).trans vz34618
        have hfr : (∀ b j : Nat, (tag b ≠ 46 ∨ j ≠ 0) → (tag b ≠ 46 ∨ j ≠ 1) → (tag b ≠ 46 ∨ j ≠ 2) → fld F b j = fld Fo b j) ∧ (∀ b j : Nat, elm F b j = elm Fo b j) := ⟨fun b j n46_0 n46_1 n46_2 => (yz34619.1 b j n46_1 n46_2).trans (hfr.1 b j n46_0 n46_1 n46_2), fun b j  => (yz34619.2 b j ).trans (hfr.2 b j )⟩
        exact t_iret hQ X hT (⟨rg_all _, hfr⟩) (Nat.le_of_ble_eq_true rfl) (Nat.le_of_ble_eq_true rfl) dX13_house_94
      have w34620 := cv_ne (rfl : p2.toInt = p2.toInt) (by decide : (1 : Int32).toInt = 1) c34613
      by_cases c34621 : p2 = 2
      · have w34622 := cv_eq (rfl : p2.toInt = p2.toInt) (by decide : (2 : Int32).toInt = 2) c34621
        refine lv_tableIn (off := 65) (tgt := 95) hx hb dX13_house_30 (by rw [c34621]; decide) (by rw [c34621]; decide) (by rw [c34621]; decide) (by decide) ?_
        refine lv_aload_n hx hb dX13_house_95 rfl (lv_at hl 0 rfl) ?_
        refine lv_aload_n hx hb dX13_house_96 rfl (lv_at hl 0 rfl) ?_
        refine t_get (C := RX13) (T := TX13) (N := 37) X hT m0 g0 rfl rfl 16 (by decide) qw_112 inlX13 rfl dX13_house_97 (fun v34623 hv34623 ov34623 => ?_)
        obtain ⟨b34624, rfl, mb34624, gb34624⟩ := okV_r ov34623
        have gb34624 : tag b34624 = 37 := tg_of gb34624
        refine lv_iconst (v := 4) hx hb dX13_house_100 (by decide) ?_
        refine lv_iload_n hx hb dX13_house_101 rfl (lv_at hl 1 rfl) ?_
        refine lv_iadd hx hb dX13_house_102 ?_
        refine lv_topi (fun z34625 ez34625 => ?_)
        have hz34625 : z34625.toInt = 4 + p1.toInt := ar_add ez34625 (by decide : (4 : Int32).toInt = 4) (rfl : p1.toInt = p1.toInt) (by omega) (by omega)
        have rz34625 : 4 ≤ z34625.toInt ∧ z34625.toInt ≤ 7 := by omega
        refine t_ild X hT mb34624 gb34624 rfl (by omega) dX13_house_103 (fun z34626 vz34626 rz34626 => ?_)
        have oz34626 := rz34626
        have rz34626 := rg_all z34626
        refine t_cVi (n := 1) (C := RX13) (T := TX13) (N := 37) (As := [.int z34626]) (rest := []) X hT (km93_X13_good l G tag L F hT.2.2.2 p0 z34626 m0 g0) m0 g0 rfl rfl qw_687 qw_688 qw_689 qw_5 qw_690 ⟨rfl, by decide +kernel, by decide +kernel, by decide +kernel⟩ ⟨Nat.le_of_ble_eq_true rfl, Nat.le_of_ble_eq_true rfl⟩ hl rfl rfl (Nat.le_of_ble_eq_true rfl) dX13_house_104 ⟨Nat.le_of_ble_eq_true rfl, Nat.le_of_ble_eq_true rfl⟩ (fun z34627 F H locs hT hz34627 => ?_)
        obtain ⟨hz34627, yz34627⟩ := hz34627
        have pf0 := (yz34627.1 _ 3 (Or.inr (by decide)) (Or.inr (by decide))).trans pf0
        have v34592 := (yz34627.1 _ 0 (Or.inr (by decide)) (Or.inr (by decide))).trans v34592
        have hv34623 := (yz34627.1 _ 16 (Or.inr (by decide)) (Or.inr (by decide))).trans hv34623
        have vz34626 := (yz34627.2 _ _ ).trans vz34626
        have hfr : (∀ b j : Nat, (tag b ≠ 46 ∨ j ≠ 0) → (tag b ≠ 46 ∨ j ≠ 1) → (tag b ≠ 46 ∨ j ≠ 2) → fld F b j = fld Fo b j) ∧ (∀ b j : Nat, elm F b j = elm Fo b j) := ⟨fun b j n46_0 n46_1 n46_2 => (yz34627.1 b j n46_1 n46_2).trans (hfr.1 b j n46_0 n46_1 n46_2), fun b j  => (yz34627.2 b j ).trans (hfr.2 b j )⟩
        exact t_iret hQ X hT (⟨rg_all _, hfr⟩) (Nat.le_of_ble_eq_true rfl) (Nat.le_of_ble_eq_true rfl) dX13_house_107
      have w34628 := cv_ne (rfl : p2.toInt = p2.toInt) (by decide : (2 : Int32).toInt = 2) c34621
      by_cases c34629 : p2 = 3
      · have w34630 := cv_eq (rfl : p2.toInt = p2.toInt) (by decide : (3 : Int32).toInt = 3) c34629
        refine lv_tableIn (off := 78) (tgt := 108) hx hb dX13_house_30 (by rw [c34629]; decide) (by rw [c34629]; decide) (by rw [c34629]; decide) (by decide) ?_
        refine lv_aload_n hx hb dX13_house_108 rfl (lv_at hl 0 rfl) ?_
        refine lv_aload_n hx hb dX13_house_109 rfl (lv_at hl 0 rfl) ?_
        refine t_get (C := RX13) (T := TX13) (N := 37) X hT m0 g0 rfl rfl 16 (by decide) qw_112 inlX13 rfl dX13_house_110 (fun v34631 hv34631 ov34631 => ?_)
        obtain ⟨b34632, rfl, mb34632, gb34632⟩ := okV_r ov34631
        have gb34632 : tag b34632 = 37 := tg_of gb34632
        refine lv_bipush (v := 8) hx hb dX13_house_113 (by decide) ?_
        refine lv_iload_n hx hb dX13_house_115 rfl (lv_at hl 1 rfl) ?_
        refine lv_iadd hx hb dX13_house_116 ?_
        refine lv_topi (fun z34633 ez34633 => ?_)
        have hz34633 : z34633.toInt = 8 + p1.toInt := ar_add ez34633 (by decide : (8 : Int32).toInt = 8) (rfl : p1.toInt = p1.toInt) (by omega) (by omega)
        have rz34633 : 8 ≤ z34633.toInt ∧ z34633.toInt ≤ 11 := by omega
        refine t_ild X hT mb34632 gb34632 rfl (by omega) dX13_house_117 (fun z34634 vz34634 rz34634 => ?_)
        have oz34634 := rz34634
        have rz34634 := rg_all z34634
        refine t_cVi (n := 1) (C := RX13) (T := TX13) (N := 37) (As := [.int z34634]) (rest := []) X hT (km93_X13_good l G tag L F hT.2.2.2 p0 z34634 m0 g0) m0 g0 rfl rfl qw_687 qw_688 qw_689 qw_5 qw_690 ⟨rfl, by decide +kernel, by decide +kernel, by decide +kernel⟩ ⟨Nat.le_of_ble_eq_true rfl, Nat.le_of_ble_eq_true rfl⟩ hl rfl rfl (Nat.le_of_ble_eq_true rfl) dX13_house_118 ⟨Nat.le_of_ble_eq_true rfl, Nat.le_of_ble_eq_true rfl⟩ (fun z34635 F H locs hT hz34635 => ?_)
        obtain ⟨hz34635, yz34635⟩ := hz34635
        have pf0 := (yz34635.1 _ 3 (Or.inr (by decide)) (Or.inr (by decide))).trans pf0
        have v34592 := (yz34635.1 _ 0 (Or.inr (by decide)) (Or.inr (by decide))).trans v34592
        have hv34631 := (yz34635.1 _ 16 (Or.inr (by decide)) (Or.inr (by decide))).trans hv34631
        have vz34634 := (yz34635.2 _ _ ).trans vz34634
        have hfr : (∀ b j : Nat, (tag b ≠ 46 ∨ j ≠ 0) → (tag b ≠ 46 ∨ j ≠ 1) → (tag b ≠ 46 ∨ j ≠ 2) → fld F b j = fld Fo b j) ∧ (∀ b j : Nat, elm F b j = elm Fo b j) := ⟨fun b j n46_0 n46_1 n46_2 => (yz34635.1 b j n46_1 n46_2).trans (hfr.1 b j n46_0 n46_1 n46_2), fun b j  => (yz34635.2 b j ).trans (hfr.2 b j )⟩
        exact t_iret hQ X hT (⟨rg_all _, hfr⟩) (Nat.le_of_ble_eq_true rfl) (Nat.le_of_ble_eq_true rfl) dX13_house_121
      have w34636 := cv_ne (rfl : p2.toInt = p2.toInt) (by decide : (3 : Int32).toInt = 3) c34629
      by_cases c34637 : p2 = 4
      · have w34638 := cv_eq (rfl : p2.toInt = p2.toInt) (by decide : (4 : Int32).toInt = 4) c34637
        refine lv_tableIn (off := 92) (tgt := 122) hx hb dX13_house_30 (by rw [c34637]; decide) (by rw [c34637]; decide) (by rw [c34637]; decide) (by decide) ?_
        refine lv_aload_n hx hb dX13_house_122 rfl (lv_at hl 0 rfl) ?_
        refine lv_aload_n hx hb dX13_house_123 rfl (lv_at hl 0 rfl) ?_
        refine t_get (C := RX13) (T := TX13) (N := 37) X hT m0 g0 rfl rfl 3 (by decide) qw_481 inlX13 rfl dX13_house_124 (fun v34639 hv34639 ov34639 => ?_)
        obtain rfl : v34639 = .ref x0 := hv34639.symm.trans pf0
        refine t_getN (C := RX12) (T := TX12) (N := 31) X hT mx0 gx0 rfl rfl 22 (by decide) (List.mem_of_getElem? (i := 26) rfl) inlX12 rfl dX13_house_127 (fun v34640 hv34640 ov34640 => ?_)
        obtain ⟨b34641, rfl, mb34641, gb34641⟩ := okV_r ov34640
        have gb34641 : tag b34641 = 31 := tg_of gb34641
        refine lv_iload_n hx hb dX13_house_130 rfl (lv_at hl 1 rfl) ?_
        refine t_ild X hT mb34641 gb34641 rfl (by omega) dX13_house_131 (fun z34642 vz34642 rz34642 => ?_)
        have rz34642 : 0 ≤ z34642.toInt ∧ z34642.toInt ≤ 3 := rz34642
        refine t_cVi (n := 1) (C := RX13) (T := TX13) (N := 37) (As := [.int z34642]) (rest := []) X hT (km93_X13_good l G tag L F hT.2.2.2 p0 z34642 m0 g0) m0 g0 rfl rfl qw_687 qw_688 qw_689 qw_5 qw_690 ⟨rfl, by decide +kernel, by decide +kernel, by decide +kernel⟩ ⟨Nat.le_of_ble_eq_true rfl, Nat.le_of_ble_eq_true rfl⟩ hl rfl rfl (Nat.le_of_ble_eq_true rfl) dX13_house_132 ⟨Nat.le_of_ble_eq_true rfl, Nat.le_of_ble_eq_true rfl⟩ (fun z34643 F H locs hT hz34643 => ?_)
        obtain ⟨hz34643, yz34643⟩ := hz34643
        have pf0 := (yz34643.1 _ 3 (Or.inr (by decide)) (Or.inr (by decide))).trans pf0
        have v34592 := (yz34643.1 _ 0 (Or.inr (by decide)) (Or.inr (by decide))).trans v34592
        have hv34640 := (yz34643.1 _ 22 (Or.inr (by decide)) (Or.inr (by decide))).trans hv34640
        have vz34642 := (yz34643.2 _ _ ).trans vz34642
        have hfr : (∀ b j : Nat, (tag b ≠ 46 ∨ j ≠ 0) → (tag b ≠ 46 ∨ j ≠ 1) → (tag b ≠ 46 ∨ j ≠ 2) → fld F b j = fld Fo b j) ∧ (∀ b j : Nat, elm F b j = elm Fo b j) := ⟨fun b j n46_0 n46_1 n46_2 => (yz34643.1 b j n46_1 n46_2).trans (hfr.1 b j n46_0 n46_1 n46_2), fun b j  => (yz34643.2 b j ).trans (hfr.2 b j )⟩
        exact t_iret hQ X hT (⟨rg_all _, hfr⟩) (Nat.le_of_ble_eq_true rfl) (Nat.le_of_ble_eq_true rfl) dX13_house_135
      have w34644 := cv_ne (rfl : p2.toInt = p2.toInt) (by decide : (4 : Int32).toInt = 4) c34637
      by_cases c34645 : p2 = 5
      · have w34646 := cv_eq (rfl : p2.toInt = p2.toInt) (by decide : (5 : Int32).toInt = 5) c34645
        refine lv_tableIn (off := 106) (tgt := 136) hx hb dX13_house_30 (by rw [c34645]; decide) (by rw [c34645]; decide) (by rw [c34645]; decide) (by decide) ?_
        refine lv_aload_n hx hb dX13_house_136 rfl (lv_at hl 0 rfl) ?_
        refine lv_aload_n hx hb dX13_house_137 rfl (lv_at hl 0 rfl) ?_
        refine lv_aload_n hx hb dX13_house_138 rfl (lv_at hl 0 rfl) ?_
        refine t_get (C := RX13) (T := TX13) (N := 37) X hT m0 g0 rfl rfl 16 (by decide) qw_112 inlX13 rfl dX13_house_139 (fun v34647 hv34647 ov34647 => ?_)
        obtain ⟨b34648, rfl, mb34648, gb34648⟩ := okV_r ov34647
        have gb34648 : tag b34648 = 37 := tg_of gb34648
        refine lv_iload_n hx hb dX13_house_142 rfl (lv_at hl 1 rfl) ?_
        refine t_cVi (n := 2) (C := RX13) (T := TX13) (N := 37) (As := [.ref b34648, .int p1]) (rest := [.ref p0]) X hT (km114_X13_isShut l G tag L F hT.2.2.2 p0 b34648 p1 x0 m0 g0 mb34648 gb34648 (by omega) mx0 gx0 pf0) m0 g0 rfl rfl qw_800 qw_801 qw_802 qw_5 qw_803 ⟨rfl, by decide +kernel, by decide +kernel, by decide +kernel⟩ ⟨Nat.le_of_ble_eq_true rfl, Nat.le_of_ble_eq_true rfl⟩ hl rfl rfl (Nat.le_of_ble_eq_true rfl) dX13_house_143 ⟨Nat.le_of_ble_eq_true rfl, Nat.le_of_ble_eq_true rfl⟩ (fun z34649 F9 H locs hT hz34649 => ?_)
        obtain ⟨fz34649, hz34649⟩ := hz34649
        rw [fz34649] at hT
        refine lv_if_eq (tgt := 153) hx hb dX13_house_146 (by decide) (fun c34650 => ?_) (fun c34650 => ?_)
        · have w34651 := cv_eq (rfl : z34649.toInt = z34649.toInt) (by decide : (0 : Int32).toInt = 0) c34650
          refine lv_iconst (v := 0) hx hb dX13_house_153 (by decide) ?_
          refine t_cVi (n := 1) (C := RX13) (T := TX13) (N := 37) (As := [.int 0]) (rest := []) X hT (km93_X13_good l G tag L F hT.2.2.2 p0 0 m0 g0) m0 g0 rfl rfl qw_687 qw_688 qw_689 qw_5 qw_690 ⟨rfl, by decide +kernel, by decide +kernel, by decide +kernel⟩ ⟨Nat.le_of_ble_eq_true rfl, Nat.le_of_ble_eq_true rfl⟩ hl rfl rfl (Nat.le_of_ble_eq_true rfl) dX13_house_154 ⟨Nat.le_of_ble_eq_true rfl, Nat.le_of_ble_eq_true rfl⟩ (fun z34652 F H locs hT hz34652 => ?_)
          obtain ⟨hz34652, yz34652⟩ := hz34652
          have pf0 := (yz34652.1 _ 3 (Or.inr (by decide)) (Or.inr (by decide))).trans pf0
          have v34592 := (yz34652.1 _ 0 (Or.inr (by decide)) (Or.inr (by decide))).trans v34592
          have hv34647 := (yz34652.1 _ 16 (Or.inr (by decide)) (Or.inr (by decide))).trans hv34647
          have hfr : (∀ b j : Nat, (tag b ≠ 46 ∨ j ≠ 0) → (tag b ≠ 46 ∨ j ≠ 1) → (tag b ≠ 46 ∨ j ≠ 2) → fld F b j = fld Fo b j) ∧ (∀ b j : Nat, elm F b j = elm Fo b j) := ⟨fun b j n46_0 n46_1 n46_2 => (yz34652.1 b j n46_1 n46_2).trans (hfr.1 b j n46_0 n46_1 n46_2), fun b j  => (yz34652.2 b j ).trans (hfr.2 b j )⟩
          exact t_iret hQ X hT (⟨rg_all _, hfr⟩) (Nat.le_of_ble_eq_true rfl) (Nat.le_of_ble_eq_true rfl) dX13_house_157
        · have w34653 := cv_ne (rfl : z34649.toInt = z34649.toInt) (by decide : (0 : Int32).toInt = 0) c34650
          refine lv_iconst (v := 1) hx hb dX13_house_149 (by decide) ?_
          refine lv_goto (tgt := 154) hx hb dX13_house_150 (by decide) ?_
          refine t_cVi (n := 1) (C := RX13) (T := TX13) (N := 37) (As := [.int 1]) (rest := []) X hT (km93_X13_good l G tag L F hT.2.2.2 p0 1 m0 g0) m0 g0 rfl rfl qw_687 qw_688 qw_689 qw_5 qw_690 ⟨rfl, by decide +kernel, by decide +kernel, by decide +kernel⟩ ⟨Nat.le_of_ble_eq_true rfl, Nat.le_of_ble_eq_true rfl⟩ hl rfl rfl (Nat.le_of_ble_eq_true rfl) dX13_house_154 ⟨Nat.le_of_ble_eq_true rfl, Nat.le_of_ble_eq_true rfl⟩ (fun z34654 F H locs hT hz34654 => ?_)
          obtain ⟨hz34654, yz34654⟩ := hz34654
          have pf0 := (yz34654.1 _ 3 (Or.inr (by decide)) (Or.inr (by decide))).trans pf0
          have v34592 := (yz34654.1 _ 0 (Or.inr (by decide)) (Or.inr (by decide))).trans v34592
          have hv34647 := (yz34654.1 _ 16 (Or.inr (by decide)) (Or.inr (by decide))).trans hv34647
          have hfr : (∀ b j : Nat, (tag b ≠ 46 ∨ j ≠ 0) → (tag b ≠ 46 ∨ j ≠ 1) → (tag b ≠ 46 ∨ j ≠ 2) → fld F b j = fld Fo b j) ∧ (∀ b j : Nat, elm F b j = elm Fo b j) := ⟨fun b j n46_0 n46_1 n46_2 => (yz34654.1 b j n46_1 n46_2).trans (hfr.1 b j n46_0 n46_1 n46_2), fun b j  => (yz34654.2 b j ).trans (hfr.2 b j )⟩
          exact t_iret hQ X hT (⟨rg_all _, hfr⟩) (Nat.le_of_ble_eq_true rfl) (Nat.le_of_ble_eq_true rfl) dX13_house_157
      have w34655 := cv_ne (rfl : p2.toInt = p2.toInt) (by decide : (5 : Int32).toInt = 5) c34645
      refine lv_tableOut (tgt := 158) hx hb dX13_house_30 (by omega) (by decide) ?_
      refine lv_aload_n hx hb dX13_house_158 rfl (lv_at hl 0 rfl) ?_
      refine lv_aload_n hx hb dX13_house_159 rfl (lv_at hl 0 rfl) ?_
      refine t_get (C := RX13) (T := TX13) (N := 37) X hT m0 g0 rfl rfl 16 (by decide) qw_112 inlX13 rfl dX13_house_160 (fun v34656 hv34656 ov34656 => ?_)
      obtain ⟨b34657, rfl, mb34657, gb34657⟩ := okV_r ov34656
      have gb34657 : tag b34657 = 37 := tg_of gb34657
      refine lv_iconst (v := 4) hx hb dX13_house_163 (by decide) ?_
      refine lv_iload_n hx hb dX13_house_164 rfl (lv_at hl 1 rfl) ?_
      refine lv_iadd hx hb dX13_house_165 ?_
      refine lv_topi (fun z34658 ez34658 => ?_)
      have hz34658 : z34658.toInt = 4 + p1.toInt := ar_add ez34658 (by decide : (4 : Int32).toInt = 4) (rfl : p1.toInt = p1.toInt) (by omega) (by omega)
      have rz34658 : 4 ≤ z34658.toInt ∧ z34658.toInt ≤ 7 := by omega
      refine t_ild X hT mb34657 gb34657 rfl (by omega) dX13_house_166 (fun z34659 vz34659 rz34659 => ?_)
      have oz34659 := rz34659
      have rz34659 := rg_all z34659
      refine lv_aload_n hx hb dX13_house_167 rfl (lv_at hl 0 rfl) ?_
      refine t_get (C := RX13) (T := TX13) (N := 37) X hT m0 g0 rfl rfl 16 (by decide) qw_112 inlX13 rfl dX13_house_168 (fun v34660 hv34660 ov34660 => ?_)
      obtain rfl : v34660 = .ref b34657 := hv34660.symm.trans hv34656
      refine lv_iconst (v := 0) hx hb dX13_house_171 (by decide) ?_
      refine lv_iload_n hx hb dX13_house_172 rfl (lv_at hl 1 rfl) ?_
      refine lv_iadd hx hb dX13_house_173 ?_
      refine lv_topi (fun z34661 ez34661 => ?_)
      obtain rfl : p1 = z34661 := (ar_zadd ez34661).symm
      refine t_ild X hT mb34657 gb34657 rfl (by omega) dX13_house_174 (fun z34662 vz34662 rz34662 => ?_)
      have rz34662 := row_ml (by omega) rz34662
      refine lv_if_ne (tgt := 182) hx hb dX13_house_175 (by decide) (fun c34663 => ?_) (fun c34663 => ?_)
      · have w34664 := cv_ne (rfl : z34662.toInt = z34662.toInt) (by decide : (0 : Int32).toInt = 0) c34663
        refine lv_bipush (v := 8) hx hb dX13_house_182 (by decide) ?_
        refine lv_aload_n hx hb dX13_house_184 rfl (lv_at hl 0 rfl) ?_
        refine t_get (C := RX13) (T := TX13) (N := 37) X hT m0 g0 rfl rfl 16 (by decide) qw_112 inlX13 rfl dX13_house_185 (fun v34665 hv34665 ov34665 => ?_)
        obtain rfl : v34665 = .ref b34657 := hv34665.symm.trans hv34656
        refine lv_iconst (v := 0) hx hb dX13_house_188 (by decide) ?_
        refine lv_iload_n hx hb dX13_house_189 rfl (lv_at hl 1 rfl) ?_
        refine lv_iadd hx hb dX13_house_190 ?_
        refine lv_topi (fun z34666 ez34666 => ?_)
        obtain rfl : p1 = z34666 := (ar_zadd ez34666).symm
        refine t_ild X hT mb34657 gb34657 rfl (by omega) dX13_house_191 (fun z34667 vz34667 rz34667 => ?_)
        obtain rfl : z34662 = z34667 := vz34662.symm.trans vz34667
        refine lv_imul hx hb dX13_house_192 ?_
        refine lv_topi (fun z34668 ez34668 => ?_)
        have hz34668 : z34668.toInt = 8 * z34662.toInt := ar_mul ez34668 (by decide : (8 : Int32).toInt = 8) (rfl : z34662.toInt = z34662.toInt) (by omega) (by omega)
        have rz34668 : 8 ≤ z34668.toInt ∧ z34668.toInt ≤ 48 := by omega
        refine lv_icmp_le (tgt := 200) hx hb dX13_house_193 (by decide) (fun c34669 => ?_) (fun c34669 => ?_)
        · have w34670 := cv_le (rfl : z34659.toInt = z34659.toInt) (rfl : z34668.toInt = z34668.toInt) c34669
          refine lv_iconst (v := 0) hx hb dX13_house_200 (by decide) ?_
          refine t_cVi (n := 1) (C := RX13) (T := TX13) (N := 37) (As := [.int 0]) (rest := []) X hT (km93_X13_good l G tag L F hT.2.2.2 p0 0 m0 g0) m0 g0 rfl rfl qw_687 qw_688 qw_689 qw_5 qw_690 ⟨rfl, by decide +kernel, by decide +kernel, by decide +kernel⟩ ⟨Nat.le_of_ble_eq_true rfl, Nat.le_of_ble_eq_true rfl⟩ hl rfl rfl (Nat.le_of_ble_eq_true rfl) dX13_house_201 ⟨Nat.le_of_ble_eq_true rfl, Nat.le_of_ble_eq_true rfl⟩ (fun z34671 F H locs hT hz34671 => ?_)
          obtain ⟨hz34671, yz34671⟩ := hz34671
          have pf0 := (yz34671.1 _ 3 (Or.inr (by decide)) (Or.inr (by decide))).trans pf0
          have v34592 := (yz34671.1 _ 0 (Or.inr (by decide)) (Or.inr (by decide))).trans v34592
          have hv34656 := (yz34671.1 _ 16 (Or.inr (by decide)) (Or.inr (by decide))).trans hv34656
          have vz34659 := (yz34671.2 _ _ ).trans vz34659
          have vz34662 := (yz34671.2 _ _ ).trans vz34662
          have hfr : (∀ b j : Nat, (tag b ≠ 46 ∨ j ≠ 0) → (tag b ≠ 46 ∨ j ≠ 1) → (tag b ≠ 46 ∨ j ≠ 2) → fld F b j = fld Fo b j) ∧ (∀ b j : Nat, elm F b j = elm Fo b j) := ⟨fun b j n46_0 n46_1 n46_2 => (yz34671.1 b j n46_1 n46_2).trans (hfr.1 b j n46_0 n46_1 n46_2), fun b j  => (yz34671.2 b j ).trans (hfr.2 b j )⟩
          exact t_iret hQ X hT (⟨rg_all _, hfr⟩) (Nat.le_of_ble_eq_true rfl) (Nat.le_of_ble_eq_true rfl) dX13_house_204
        · have w34672 := cv_nle (rfl : z34659.toInt = z34659.toInt) (rfl : z34668.toInt = z34668.toInt) c34669
          refine lv_iconst (v := 1) hx hb dX13_house_196 (by decide) ?_
          refine lv_goto (tgt := 201) hx hb dX13_house_197 (by decide) ?_
          refine t_cVi (n := 1) (C := RX13) (T := TX13) (N := 37) (As := [.int 1]) (rest := []) X hT (km93_X13_good l G tag L F hT.2.2.2 p0 1 m0 g0) m0 g0 rfl rfl qw_687 qw_688 qw_689 qw_5 qw_690 ⟨rfl, by decide +kernel, by decide +kernel, by decide +kernel⟩ ⟨Nat.le_of_ble_eq_true rfl, Nat.le_of_ble_eq_true rfl⟩ hl rfl rfl (Nat.le_of_ble_eq_true rfl) dX13_house_201 ⟨Nat.le_of_ble_eq_true rfl, Nat.le_of_ble_eq_true rfl⟩ (fun z34673 F H locs hT hz34673 => ?_)
          obtain ⟨hz34673, yz34673⟩ := hz34673
          have pf0 := (yz34673.1 _ 3 (Or.inr (by decide)) (Or.inr (by decide))).trans pf0
          have v34592 := (yz34673.1 _ 0 (Or.inr (by decide)) (Or.inr (by decide))).trans v34592
          have hv34656 := (yz34673.1 _ 16 (Or.inr (by decide)) (Or.inr (by decide))).trans hv34656
          have vz34659 := (yz34673.2 _ _ ).trans vz34659
          have vz34662 := (yz34673.2 _ _ ).trans vz34662
          have hfr : (∀ b j : Nat, (tag b ≠ 46 ∨ j ≠ 0) → (tag b ≠ 46 ∨ j ≠ 1) → (tag b ≠ 46 ∨ j ≠ 2) → fld F b j = fld Fo b j) ∧ (∀ b j : Nat, elm F b j = elm Fo b j) := ⟨fun b j n46_0 n46_1 n46_2 => (yz34673.1 b j n46_1 n46_2).trans (hfr.1 b j n46_0 n46_1 n46_2), fun b j  => (yz34673.2 b j ).trans (hfr.2 b j )⟩
          exact t_iret hQ X hT (⟨rg_all _, hfr⟩) (Nat.le_of_ble_eq_true rfl) (Nat.le_of_ble_eq_true rfl) dX13_house_204
      · have w34674 := cv_eq (rfl : z34662.toInt = z34662.toInt) (by decide : (0 : Int32).toInt = 0) c34663
        refine lv_iconst (v := 1) hx hb dX13_house_178 (by decide) ?_
        refine lv_goto (tgt := 193) hx hb dX13_house_179 (by decide) ?_
        refine lv_icmp_le (tgt := 200) hx hb dX13_house_193 (by decide) (fun c34675 => ?_) (fun c34675 => ?_)
        · have w34676 := cv_le (rfl : z34659.toInt = z34659.toInt) (by decide : (1 : Int32).toInt = 1) c34675
          refine lv_iconst (v := 0) hx hb dX13_house_200 (by decide) ?_
          refine t_cVi (n := 1) (C := RX13) (T := TX13) (N := 37) (As := [.int 0]) (rest := []) X hT (km93_X13_good l G tag L F hT.2.2.2 p0 0 m0 g0) m0 g0 rfl rfl qw_687 qw_688 qw_689 qw_5 qw_690 ⟨rfl, by decide +kernel, by decide +kernel, by decide +kernel⟩ ⟨Nat.le_of_ble_eq_true rfl, Nat.le_of_ble_eq_true rfl⟩ hl rfl rfl (Nat.le_of_ble_eq_true rfl) dX13_house_201 ⟨Nat.le_of_ble_eq_true rfl, Nat.le_of_ble_eq_true rfl⟩ (fun z34677 F H locs hT hz34677 => ?_)
          obtain ⟨hz34677, yz34677⟩ := hz34677
          have pf0 := (yz34677.1 _ 3 (Or.inr (by decide)) (Or.inr (by decide))).trans pf0
          have v34592 := (yz34677.1 _ 0 (Or.inr (by decide)) (Or.inr (by decide))).trans v34592
          have hv34656 := (yz34677.1 _ 16 (Or.inr (by decide)) (Or.inr (by decide))).trans hv34656
          have vz34659 := (yz34677.2 _ _ ).trans vz34659
          have vz34662 := (yz34677.2 _ _ ).trans vz34662
          have hfr : (∀ b j : Nat, (tag b ≠ 46 ∨ j ≠ 0) → (tag b ≠ 46 ∨ j ≠ 1) → (tag b ≠ 46 ∨ j ≠ 2) → fld F b j = fld Fo b j) ∧ (∀ b j : Nat, elm F b j = elm Fo b j) := ⟨fun b j n46_0 n46_1 n46_2 => (yz34677.1 b j n46_1 n46_2).trans (hfr.1 b j n46_0 n46_1 n46_2), fun b j  => (yz34677.2 b j ).trans (hfr.2 b j )⟩
          exact t_iret hQ X hT (⟨rg_all _, hfr⟩) (Nat.le_of_ble_eq_true rfl) (Nat.le_of_ble_eq_true rfl) dX13_house_204
        · have w34678 := cv_nle (rfl : z34659.toInt = z34659.toInt) (by decide : (1 : Int32).toInt = 1) c34675
          refine lv_iconst (v := 1) hx hb dX13_house_196 (by decide) ?_
          refine lv_goto (tgt := 201) hx hb dX13_house_197 (by decide) ?_
          refine t_cVi (n := 1) (C := RX13) (T := TX13) (N := 37) (As := [.int 1]) (rest := []) X hT (km93_X13_good l G tag L F hT.2.2.2 p0 1 m0 g0) m0 g0 rfl rfl qw_687 qw_688 qw_689 qw_5 qw_690 ⟨rfl, by decide +kernel, by decide +kernel, by decide +kernel⟩ ⟨Nat.le_of_ble_eq_true rfl, Nat.le_of_ble_eq_true rfl⟩ hl rfl rfl (Nat.le_of_ble_eq_true rfl) dX13_house_201 ⟨Nat.le_of_ble_eq_true rfl, Nat.le_of_ble_eq_true rfl⟩ (fun z34679 F H locs hT hz34679 => ?_)
          obtain ⟨hz34679, yz34679⟩ := hz34679
          have pf0 := (yz34679.1 _ 3 (Or.inr (by decide)) (Or.inr (by decide))).trans pf0
          have v34592 := (yz34679.1 _ 0 (Or.inr (by decide)) (Or.inr (by decide))).trans v34592
          have hv34656 := (yz34679.1 _ 16 (Or.inr (by decide)) (Or.inr (by decide))).trans hv34656
          have vz34659 := (yz34679.2 _ _ ).trans vz34659
          have vz34662 := (yz34679.2 _ _ ).trans vz34662
          have hfr : (∀ b j : Nat, (tag b ≠ 46 ∨ j ≠ 0) → (tag b ≠ 46 ∨ j ≠ 1) → (tag b ≠ 46 ∨ j ≠ 2) → fld F b j = fld Fo b j) ∧ (∀ b j : Nat, elm F b j = elm Fo b j) := ⟨fun b j n46_0 n46_1 n46_2 => (yz34679.1 b j n46_1 n46_2).trans (hfr.1 b j n46_0 n46_1 n46_2), fun b j  => (yz34679.2 b j ).trans (hfr.2 b j )⟩
          exact t_iret hQ X hT (⟨rg_all _, hfr⟩) (Nat.le_of_ble_eq_true rfl) (Nat.le_of_ble_eq_true rfl) dX13_house_204
    · have w34680 := cv_eq (rfl : z34599.toInt = z34599.toInt) (by decide : (0 : Int32).toInt = 0) c34602
      refine lv_aload_n hx hb dX13_house_23 rfl (lv_at hl 0 rfl) ?_
      refine lv_iconst (v := 1) hx hb dX13_house_24 (by decide) ?_
      refine t_cVi (n := 1) (C := RX13) (T := TX13) (N := 37) (As := [.int 1]) (rest := []) X hT (km88_X13_refused l G tag L F hT.2.2.2 p0 1 m0 g0) m0 g0 rfl rfl qw_484 qw_485 qw_486 qw_5 qw_487 ⟨rfl, by decide +kernel, by decide +kernel, by decide +kernel⟩ ⟨Nat.le_of_ble_eq_true rfl, Nat.le_of_ble_eq_true rfl⟩ hl rfl rfl (Nat.le_of_ble_eq_true rfl) dX13_house_25 ⟨Nat.le_of_ble_eq_true rfl, Nat.le_of_ble_eq_true rfl⟩ (fun z34681 F H locs hT hz34681 => ?_)
      obtain ⟨hz34681, yz34681⟩ := hz34681
      have pf0 := (yz34681.1 _ 3 (Or.inr (by decide)) (Or.inr (by decide))).trans pf0
      have v34592 := (yz34681.1 _ 0 (Or.inr (by decide)) (Or.inr (by decide))).trans v34592
      have hfr : (∀ b j : Nat, (tag b ≠ 46 ∨ j ≠ 0) → (tag b ≠ 46 ∨ j ≠ 1) → (tag b ≠ 46 ∨ j ≠ 2) → fld F b j = fld Fo b j) ∧ (∀ b j : Nat, elm F b j = elm Fo b j) := ⟨fun b j n46_0 n46_1 n46_2 => (yz34681.1 b j n46_1 n46_2).trans (hfr.1 b j n46_0 n46_1 n46_2), fun b j  => (yz34681.2 b j ).trans (hfr.2 b j )⟩
      exact t_iret hQ X hT (⟨rg_all _, hfr⟩) (Nat.le_of_ble_eq_true rfl) (Nat.le_of_ble_eq_true rfl) dX13_house_28
