set_option maxHeartbeats 4000000 in
set_option maxRecDepth 100000 in
theorem km101_X13_shared (l : Launch) (G : KG) (tag : Nat → Nat) (L : List Nat) (Fo : Nat → va_E) (ho : okT G ttC tag L Fo) (p0 : Nat) (x0 : Nat) (m0 : p0 ∈ L) (g0 : tag p0 = 46) (mx0 : x0 ∈ L) (gx0 : tag x0 = 45) (pf0 : fld Fo p0 3 = .ref x0) : TMi l yX13_shared cX13_shared 1 (some .int) { frames := 4, cells := 0, slots := 0, locals := 96 } G ttC tag L Fo [.ref p0] (fun r F1 => ((-2147483648) ≤ r.toInt ∧ r.toInt ≤ 2147483647) ∧ ((∀ b j : Nat, (tag b ≠ 46 ∨ j ≠ 0) → (tag b ≠ 46 ∨ j ≠ 1) → (tag b ≠ 46 ∨ j ≠ 2) → fld F1 b j = fld Fo b j) ∧ (∀ b j : Nat, elm F1 b j = elm Fo b j))) := by
  refine t_bodyi (y := yX13_shared) (cd := cX13_shared) (mL := 1) (rt := (some .int)) (rm := { frames := 4, cells := 0, slots := 0, locals := 96 }) (av := [.ref p0]) (by decide) (Nat.le_of_ble_eq_true rfl) ho ?_
  intro p e s m args below meth c ls A Q hQ X hT hl
  have hx := X.1.1
  have hb := X.1.2.1
  have hl : lv_has ls 1 [(0, .ref p0)] := hl
  obtain ⟨F, hFo⟩ : ∃ F : Nat → va_E, F = Fo := ⟨_, rfl⟩
  rw [← hFo] at hT pf0
  have hfr : (∀ b j : Nat, (tag b ≠ 46 ∨ j ≠ 0) → (tag b ≠ 46 ∨ j ≠ 1) → (tag b ≠ 46 ∨ j ≠ 2) → fld F b j = fld Fo b j) ∧ (∀ b j : Nat, elm F b j = elm Fo b j) := by
    rw [hFo]
    exact ⟨by intros; rfl, by intros; rfl⟩
  refine lv_aload_n hx hb dX13_shared_0 rfl (lv_at hl 0 rfl) ?_
  refine lv_iconst (v := 0) hx hb dX13_shared_1 (by decide) ?_
  refine t_put (C := RX13) (T := TX13) (N := 37) (v := .int 0) X hT m0 g0 rfl tyX13 tyX13_ok nmX13 rfl 0 (by decide) qw_140 inlX13 rfl (by first | rfl | decide) (by first | rfl | decide) rfl (⟨_, rfl, (show (-2147483648) ≤ (0 : Int32).toInt from (by decide)), (show (0 : Int32).toInt ≤ 2147483647 from (by decide))⟩) dX13_shared_2 (fun F H locs hT v32070 h1v32070 h2v32070 => ?_)
  have pf0 := (h1v32070 _ _ (Or.inr (by decide))).trans pf0
  have hfr : (∀ b j : Nat, (tag b ≠ 46 ∨ j ≠ 0) → (tag b ≠ 46 ∨ j ≠ 1) → (tag b ≠ 46 ∨ j ≠ 2) → fld F b j = fld Fo b j) ∧ (∀ b j : Nat, elm F b j = elm Fo b j) := ⟨fun b j n46_0 n46_1 n46_2 => (h1v32070 b j (fr_ne g0 n46_0)).trans (hfr.1 b j n46_0 n46_1 n46_2), fun b j  => (h2v32070 b j).trans (hfr.2 b j )⟩
  refine lv_aload_n hx hb dX13_shared_5 rfl (lv_at hl 0 rfl) ?_
  refine t_get (C := RX13) (T := TX13) (N := 37) X hT m0 g0 rfl rfl 3 (by decide) qw_481 inlX13 rfl dX13_shared_6 (fun v32071 hv32071 ov32071 => ?_)
  obtain rfl : v32071 = .ref x0 := hv32071.symm.trans pf0
  refine lv_ifnonnull (tgt := 20) hx hb dX13_shared_9 (by decide) ?_
  refine lv_aload_n hx hb dX13_shared_20 rfl (lv_at hl 0 rfl) ?_
  refine lv_aload_n hx hb dX13_shared_21 rfl (lv_at hl 0 rfl) ?_
  refine lv_iconst (v := 2) hx hb dX13_shared_22 (by decide) ?_
  refine lv_iconst (v := 4) hx hb dX13_shared_23 (by decide) ?_
  refine lv_iconst (v := 0) hx hb dX13_shared_24 (by decide) ?_
  refine t_cVi (n := 3) (C := RX13) (T := TX13) (N := 37) (As := [.int 2, .int 4, .int 0]) (rest := [.ref p0]) X hT (km100_X13_owned l G tag L F hT.2.2.2 p0 2 4 0 x0 m0 g0 (by decide) mx0 gx0 pf0) m0 g0 rfl rfl qw_740 qw_741 qw_742 qw_5 qw_743 ⟨rfl, by decide +kernel, by decide +kernel, by decide +kernel⟩ ⟨Nat.le_of_ble_eq_true rfl, Nat.le_of_ble_eq_true rfl⟩ hl rfl rfl (Nat.le_of_ble_eq_true rfl) dX13_shared_25 ⟨Nat.le_of_ble_eq_true rfl, Nat.le_of_ble_eq_true rfl⟩ (fun z32072 F9 H locs hT hz32072 => ?_)
  obtain ⟨fz32072, hz32072⟩ := hz32072
  rw [fz32072] at hT
  refine t_cVi (n := 1) (C := RX13) (T := TX13) (N := 37) (As := [.int z32072]) (rest := []) X hT (km93_X13_good l G tag L F hT.2.2.2 p0 z32072 m0 g0) m0 g0 rfl rfl qw_687 qw_688 qw_689 qw_5 qw_690 ⟨rfl, by decide +kernel, by decide +kernel, by decide +kernel⟩ ⟨Nat.le_of_ble_eq_true rfl, Nat.le_of_ble_eq_true rfl⟩ hl rfl rfl (Nat.le_of_ble_eq_true rfl) dX13_shared_28 ⟨Nat.le_of_ble_eq_true rfl, Nat.le_of_ble_eq_true rfl⟩ (fun z32073 F H locs hT hz32073 => ?_)
  obtain ⟨hz32073, yz32073⟩ := hz32073
  have pf0 := (yz32073.1 _ 3 (Or.inr (by decide)) (Or.inr (by decide))).trans pf0
  have v32070 := (yz32073.1 _ 0 (Or.inr (by decide)) (Or.inr (by decide))).trans v32070
  have hfr : (∀ b j : Nat, (tag b ≠ 46 ∨ j ≠ 0) → (tag b ≠ 46 ∨ j ≠ 1) → (tag b ≠ 46 ∨ j ≠ 2) → fld F b j = fld Fo b j) ∧ (∀ b j : Nat, elm F b j = elm Fo b j) := ⟨fun b j n46_0 n46_1 n46_2 => (yz32073.1 b j n46_1 n46_2).trans (hfr.1 b j n46_0 n46_1 n46_2), fun b j  => (yz32073.2 b j ).trans (hfr.2 b j )⟩
  exact t_iret hQ X hT (⟨rg_all _, hfr⟩) (Nat.le_of_ble_eq_true rfl) (Nat.le_of_ble_eq_true rfl) dX13_shared_31
set_option maxHeartbeats 4000000 in
set_option maxRecDepth 100000 in
theorem km102_X13_shared (l : Launch) (G : KG) (tag : Nat → Nat) (L : List Nat) (Fo : Nat → va_E) (ho : okT G ttC tag L Fo) (p0 : Nat) (m0 : p0 ∈ L) (g0 : tag p0 = 46) (pf0 : fld Fo p0 3 = .null) : TMi l yX13_shared cX13_shared 1 (some .int) { frames := 4, cells := 0, slots := 0, locals := 96 } G ttC tag L Fo [.ref p0] (fun r F1 => ((-2147483648) ≤ r.toInt ∧ r.toInt ≤ 2147483647) ∧ ((∀ b j : Nat, (tag b ≠ 46 ∨ j ≠ 0) → (tag b ≠ 46 ∨ j ≠ 1) → (tag b ≠ 46 ∨ j ≠ 2) → fld F1 b j = fld Fo b j) ∧ (∀ b j : Nat, elm F1 b j = elm Fo b j))) := by
  refine t_bodyi (y := yX13_shared) (cd := cX13_shared) (mL := 1) (rt := (some .int)) (rm := { frames := 4, cells := 0, slots := 0, locals := 96 }) (av := [.ref p0]) (by decide) (Nat.le_of_ble_eq_true rfl) ho ?_
  intro p e s m args below meth c ls A Q hQ X hT hl
  have hx := X.1.1
  have hb := X.1.2.1
  have hl : lv_has ls 1 [(0, .ref p0)] := hl
  obtain ⟨F, hFo⟩ : ∃ F : Nat → va_E, F = Fo := ⟨_, rfl⟩
  rw [← hFo] at hT pf0
  have hfr : (∀ b j : Nat, (tag b ≠ 46 ∨ j ≠ 0) → (tag b ≠ 46 ∨ j ≠ 1) → (tag b ≠ 46 ∨ j ≠ 2) → fld F b j = fld Fo b j) ∧ (∀ b j : Nat, elm F b j = elm Fo b j) := by
    rw [hFo]
    exact ⟨by intros; rfl, by intros; rfl⟩
  refine lv_aload_n hx hb dX13_shared_0 rfl (lv_at hl 0 rfl) ?_
  refine lv_iconst (v := 0) hx hb dX13_shared_1 (by decide) ?_
  refine t_put (C := RX13) (T := TX13) (N := 37) (v := .int 0) X hT m0 g0 rfl tyX13 tyX13_ok nmX13 rfl 0 (by decide) qw_140 inlX13 rfl (by first | rfl | decide) (by first | rfl | decide) rfl (⟨_, rfl, (show (-2147483648) ≤ (0 : Int32).toInt from (by decide)), (show (0 : Int32).toInt ≤ 2147483647 from (by decide))⟩) dX13_shared_2 (fun F H locs hT v32107 h1v32107 h2v32107 => ?_)
  have pf0 := (h1v32107 _ _ (Or.inr (by decide))).trans pf0
  have hfr : (∀ b j : Nat, (tag b ≠ 46 ∨ j ≠ 0) → (tag b ≠ 46 ∨ j ≠ 1) → (tag b ≠ 46 ∨ j ≠ 2) → fld F b j = fld Fo b j) ∧ (∀ b j : Nat, elm F b j = elm Fo b j) := ⟨fun b j n46_0 n46_1 n46_2 => (h1v32107 b j (fr_ne g0 n46_0)).trans (hfr.1 b j n46_0 n46_1 n46_2), fun b j  => (h2v32107 b j).trans (hfr.2 b j )⟩
  refine lv_aload_n hx hb dX13_shared_5 rfl (lv_at hl 0 rfl) ?_
  refine t_get (C := RX13) (T := TX13) (N := 37) X hT m0 g0 rfl rfl 3 (by decide) qw_481 inlX13 rfl dX13_shared_6 (fun v32108 hv32108 ov32108 => ?_)
  obtain rfl : v32108 = .null := hv32108.symm.trans pf0
  refine lv_ifnonnullN hx hb dX13_shared_9 ?_
  refine lv_aload_n hx hb dX13_shared_12 rfl (lv_at hl 0 rfl) ?_
  refine lv_iconst (v := 1) hx hb dX13_shared_13 (by decide) ?_
  refine t_cVi (n := 1) (C := RX13) (T := TX13) (N := 37) (As := [.int 1]) (rest := []) X hT (km88_X13_refused l G tag L F hT.2.2.2 p0 1 m0 g0) m0 g0 rfl rfl qw_484 qw_485 qw_486 qw_5 qw_487 ⟨rfl, by decide +kernel, by decide +kernel, by decide +kernel⟩ ⟨Nat.le_of_ble_eq_true rfl, Nat.le_of_ble_eq_true rfl⟩ hl rfl rfl (Nat.le_of_ble_eq_true rfl) dX13_shared_14 ⟨Nat.le_of_ble_eq_true rfl, Nat.le_of_ble_eq_true rfl⟩ (fun z32109 F H locs hT hz32109 => ?_)
  obtain ⟨hz32109, yz32109⟩ := hz32109
  have pf0 := (yz32109.1 _ 3 (Or.inr (by decide)) (Or.inr (by decide))).trans pf0
  have v32107 := (yz32109.1 _ 0 (Or.inr (by decide)) (Or.inr (by decide))).trans v32107
  have hfr : (∀ b j : Nat, (tag b ≠ 46 ∨ j ≠ 0) → (tag b ≠ 46 ∨ j ≠ 1) → (tag b ≠ 46 ∨ j ≠ 2) → fld F b j = fld Fo b j) ∧ (∀ b j : Nat, elm F b j = elm Fo b j) := ⟨fun b j n46_0 n46_1 n46_2 => (yz32109.1 b j n46_1 n46_2).trans (hfr.1 b j n46_0 n46_1 n46_2), fun b j  => (yz32109.2 b j ).trans (hfr.2 b j )⟩
  refine lv_goto (tgt := 31) hx hb dX13_shared_17 (by decide) ?_
  exact t_iret hQ X hT (⟨rg_all _, hfr⟩) (Nat.le_of_ble_eq_true rfl) (Nat.le_of_ble_eq_true rfl) dX13_shared_31
theorem kp_X13_shared (l : Launch) (G : KG) (tag : Nat → Nat) (L : List Nat) (Fo : Nat → va_E) (ho : okT G ttC tag L Fo) (p0 : Nat) (m0 : p0 ∈ L) (g0 : tag p0 = 46) : TMi l yX13_shared cX13_shared 1 (some .int) { frames := 4, cells := 0, slots := 0, locals := 96 } G ttC tag L Fo [.ref p0] (fun r F1 => ((-2147483648) ≤ r.toInt ∧ r.toInt ≤ 2147483647) ∧ ((∀ b j : Nat, (tag b ≠ 46 ∨ j ≠ 0) → (tag b ≠ 46 ∨ j ≠ 1) → (tag b ≠ 46 ∨ j ≠ 2) → fld F1 b j = fld Fo b j) ∧ (∀ b j : Nat, elm F1 b j = elm Fo b j))) := by
  rcases t_fldn ho m0 g0 rfl 3 rfl with h9 | ⟨b9, h9, m9, t9⟩
  · exact km102_X13_shared l G tag L Fo ho p0  m0 g0 h9 
  · exact km101_X13_shared l G tag L Fo ho p0 b9  m0 g0 m9 (tg_of t9) h9 
set_option maxHeartbeats 4000000 in
set_option maxRecDepth 100000 in
theorem km104_X13_free (l : Launch) (G : KG) (tag : Nat → Nat) (L : List Nat) (Fo : Nat → va_E) (ho : okT G ttC tag L Fo) (p0 : Nat) (x0 : Nat) (m0 : p0 ∈ L) (g0 : tag p0 = 46) (mx0 : x0 ∈ L) (gx0 : tag x0 = 45) (pf0 : fld Fo p0 3 = .ref x0) : TMi l yX13_free cX13_free 1 (some .int) { frames := 4, cells := 0, slots := 0, locals := 96 } G ttC tag L Fo [.ref p0] (fun r F1 => ((-2147483648) ≤ r.toInt ∧ r.toInt ≤ 2147483647) ∧ ((∀ b j : Nat, (tag b ≠ 46 ∨ j ≠ 0) → (tag b ≠ 46 ∨ j ≠ 1) → (tag b ≠ 46 ∨ j ≠ 2) → fld F1 b j = fld Fo b j) ∧ (∀ b j : Nat, elm F1 b j = elm Fo b j))) := by
  refine t_bodyi (y := yX13_free) (cd := cX13_free) (mL := 1) (rt := (some .int)) (rm := { frames := 4, cells := 0, slots := 0, locals := 96 }) (av := [.ref p0]) (by decide) (Nat.le_of_ble_eq_true rfl) ho ?_
  intro p e s m args below meth c ls A Q hQ X hT hl
  have hx := X.1.1
  have hb := X.1.2.1
  have hl : lv_has ls 1 [(0, .ref p0)] := hl
  obtain ⟨F, hFo⟩ : ∃ F : Nat → va_E, F = Fo := ⟨_, rfl⟩
  rw [← hFo] at hT pf0
  have hfr : (∀ b j : Nat, (tag b ≠ 46 ∨ j ≠ 0) → (tag b ≠ 46 ∨ j ≠ 1) → (tag b ≠ 46 ∨ j ≠ 2) → fld F b j = fld Fo b j) ∧ (∀ b j : Nat, elm F b j = elm Fo b j) := by
    rw [hFo]
    exact ⟨by intros; rfl, by intros; rfl⟩
  refine lv_aload_n hx hb dX13_free_0 rfl (lv_at hl 0 rfl) ?_
  refine lv_iconst (v := 0) hx hb dX13_free_1 (by decide) ?_
  refine t_put (C := RX13) (T := TX13) (N := 37) (v := .int 0) X hT m0 g0 rfl tyX13 tyX13_ok nmX13 rfl 0 (by decide) qw_140 inlX13 rfl (by first | rfl | decide) (by first | rfl | decide) rfl (⟨_, rfl, (show (-2147483648) ≤ (0 : Int32).toInt from (by decide)), (show (0 : Int32).toInt ≤ 2147483647 from (by decide))⟩) dX13_free_2 (fun F H locs hT v32154 h1v32154 h2v32154 => ?_)
  have pf0 := (h1v32154 _ _ (Or.inr (by decide))).trans pf0
  have hfr : (∀ b j : Nat, (tag b ≠ 46 ∨ j ≠ 0) → (tag b ≠ 46 ∨ j ≠ 1) → (tag b ≠ 46 ∨ j ≠ 2) → fld F b j = fld Fo b j) ∧ (∀ b j : Nat, elm F b j = elm Fo b j) := ⟨fun b j n46_0 n46_1 n46_2 => (h1v32154 b j (fr_ne g0 n46_0)).trans (hfr.1 b j n46_0 n46_1 n46_2), fun b j  => (h2v32154 b j).trans (hfr.2 b j )⟩
  refine lv_aload_n hx hb dX13_free_5 rfl (lv_at hl 0 rfl) ?_
  refine t_get (C := RX13) (T := TX13) (N := 37) X hT m0 g0 rfl rfl 3 (by decide) qw_481 inlX13 rfl dX13_free_6 (fun v32155 hv32155 ov32155 => ?_)
  obtain rfl : v32155 = .ref x0 := hv32155.symm.trans pf0
  refine lv_ifnonnull (tgt := 20) hx hb dX13_free_9 (by decide) ?_
  refine lv_aload_n hx hb dX13_free_20 rfl (lv_at hl 0 rfl) ?_
  refine lv_aload_n hx hb dX13_free_21 rfl (lv_at hl 0 rfl) ?_
  refine lv_iconst (v := 0) hx hb dX13_free_22 (by decide) ?_
  refine lv_iconst (v := 0) hx hb dX13_free_23 (by decide) ?_
  refine lv_iconst (v := 1) hx hb dX13_free_24 (by decide) ?_
  refine t_cVi (n := 3) (C := RX13) (T := TX13) (N := 37) (As := [.int 0, .int 0, .int 1]) (rest := [.ref p0]) X hT (km100_X13_owned l G tag L F hT.2.2.2 p0 0 0 1 x0 m0 g0 (by decide) mx0 gx0 pf0) m0 g0 rfl rfl qw_740 qw_741 qw_742 qw_5 qw_743 ⟨rfl, by decide +kernel, by decide +kernel, by decide +kernel⟩ ⟨Nat.le_of_ble_eq_true rfl, Nat.le_of_ble_eq_true rfl⟩ hl rfl rfl (Nat.le_of_ble_eq_true rfl) dX13_free_25 ⟨Nat.le_of_ble_eq_true rfl, Nat.le_of_ble_eq_true rfl⟩ (fun z32156 F9 H locs hT hz32156 => ?_)
  obtain ⟨fz32156, hz32156⟩ := hz32156
  rw [fz32156] at hT
  refine t_cVi (n := 1) (C := RX13) (T := TX13) (N := 37) (As := [.int z32156]) (rest := []) X hT (km93_X13_good l G tag L F hT.2.2.2 p0 z32156 m0 g0) m0 g0 rfl rfl qw_687 qw_688 qw_689 qw_5 qw_690 ⟨rfl, by decide +kernel, by decide +kernel, by decide +kernel⟩ ⟨Nat.le_of_ble_eq_true rfl, Nat.le_of_ble_eq_true rfl⟩ hl rfl rfl (Nat.le_of_ble_eq_true rfl) dX13_free_28 ⟨Nat.le_of_ble_eq_true rfl, Nat.le_of_ble_eq_true rfl⟩ (fun z32157 F H locs hT hz32157 => ?_)
  obtain ⟨hz32157, yz32157⟩ := hz32157
  have pf0 := (yz32157.1 _ 3 (Or.inr (by decide)) (Or.inr (by decide))).trans pf0
  have v32154 := (yz32157.1 _ 0 (Or.inr (by decide)) (Or.inr (by decide))).trans v32154
  have hfr : (∀ b j : Nat, (tag b ≠ 46 ∨ j ≠ 0) → (tag b ≠ 46 ∨ j ≠ 1) → (tag b ≠ 46 ∨ j ≠ 2) → fld F b j = fld Fo b j) ∧ (∀ b j : Nat, elm F b j = elm Fo b j) := ⟨fun b j n46_0 n46_1 n46_2 => (yz32157.1 b j n46_1 n46_2).trans (hfr.1 b j n46_0 n46_1 n46_2), fun b j  => (yz32157.2 b j ).trans (hfr.2 b j )⟩
  exact t_iret hQ X hT (⟨rg_all _, hfr⟩) (Nat.le_of_ble_eq_true rfl) (Nat.le_of_ble_eq_true rfl) dX13_free_31
set_option maxHeartbeats 4000000 in
set_option maxRecDepth 100000 in
theorem km105_X13_free (l : Launch) (G : KG) (tag : Nat → Nat) (L : List Nat) (Fo : Nat → va_E) (ho : okT G ttC tag L Fo) (p0 : Nat) (m0 : p0 ∈ L) (g0 : tag p0 = 46) (pf0 : fld Fo p0 3 = .null) : TMi l yX13_free cX13_free 1 (some .int) { frames := 4, cells := 0, slots := 0, locals := 96 } G ttC tag L Fo [.ref p0] (fun r F1 => ((-2147483648) ≤ r.toInt ∧ r.toInt ≤ 2147483647) ∧ ((∀ b j : Nat, (tag b ≠ 46 ∨ j ≠ 0) → (tag b ≠ 46 ∨ j ≠ 1) → (tag b ≠ 46 ∨ j ≠ 2) → fld F1 b j = fld Fo b j) ∧ (∀ b j : Nat, elm F1 b j = elm Fo b j))) := by
  refine t_bodyi (y := yX13_free) (cd := cX13_free) (mL := 1) (rt := (some .int)) (rm := { frames := 4, cells := 0, slots := 0, locals := 96 }) (av := [.ref p0]) (by decide) (Nat.le_of_ble_eq_true rfl) ho ?_
  intro p e s m args below meth c ls A Q hQ X hT hl
  have hx := X.1.1
  have hb := X.1.2.1
  have hl : lv_has ls 1 [(0, .ref p0)] := hl
  obtain ⟨F, hFo⟩ : ∃ F : Nat → va_E, F = Fo := ⟨_, rfl⟩
  rw [← hFo] at hT pf0
  have hfr : (∀ b j : Nat, (tag b ≠ 46 ∨ j ≠ 0) → (tag b ≠ 46 ∨ j ≠ 1) → (tag b ≠ 46 ∨ j ≠ 2) → fld F b j = fld Fo b j) ∧ (∀ b j : Nat, elm F b j = elm Fo b j) := by
    rw [hFo]
    exact ⟨by intros; rfl, by intros; rfl⟩
  refine lv_aload_n hx hb dX13_free_0 rfl (lv_at hl 0 rfl) ?_
  refine lv_iconst (v := 0) hx hb dX13_free_1 (by decide) ?_
  refine t_put (C := RX13) (T := TX13) (N := 37) (v := .int 0) X hT m0 g0 rfl tyX13 tyX13_ok nmX13 rfl 0 (by decide) qw_140 inlX13 rfl (by first | rfl | decide) (by first | rfl | decide) rfl (⟨_, rfl, (show (-2147483648) ≤ (0 : Int32).toInt from (by decide)), (show (0 : Int32).toInt ≤ 2147483647 from (by decide))⟩) dX13_free_2 (fun F H locs hT v32191 h1v32191 h2v32191 => ?_)
  have pf0 := (h1v32191 _ _ (Or.inr (by decide))).trans pf0
  have hfr : (∀ b j : Nat, (tag b ≠ 46 ∨ j ≠ 0) → (tag b ≠ 46 ∨ j ≠ 1) → (tag b ≠ 46 ∨ j ≠ 2) → fld F b j = fld Fo b j) ∧ (∀ b j : Nat, elm F b j = elm Fo b j) := ⟨fun b j n46_0 n46_1 n46_2 => (h1v32191 b j (fr_ne g0 n46_0)).trans (hfr.1 b j n46_0 n46_1 n46_2), fun b j  => (h2v32191 b j).trans (hfr.2 b j )⟩
  refine lv_aload_n hx hb dX13_free_5 rfl (lv_at hl 0 rfl) ?_
  refine t_get (C := RX13) (T := TX13) (N := 37) X hT m0 g0 rfl rfl 3 (by decide) qw_481 inlX13 rfl dX13_free_6 (fun v32192 hv32192 ov32192 => ?_)
  obtain rfl : v32192 = .null := hv32192.symm.trans pf0
  refine lv_ifnonnullN hx hb dX13_free_9 ?_
  refine lv_aload_n hx hb dX13_free_12 rfl (lv_at hl 0 rfl) ?_
  refine lv_iconst (v := 1) hx hb dX13_free_13 (by decide) ?_
  refine t_cVi (n := 1) (C := RX13) (T := TX13) (N := 37) (As := [.int 1]) (rest := []) X hT (km88_X13_refused l G tag L F hT.2.2.2 p0 1 m0 g0) m0 g0 rfl rfl qw_484 qw_485 qw_486 qw_5 qw_487 ⟨rfl, by decide +kernel, by decide +kernel, by decide +kernel⟩ ⟨Nat.le_of_ble_eq_true rfl, Nat.le_of_ble_eq_true rfl⟩ hl rfl rfl (Nat.le_of_ble_eq_true rfl) dX13_free_14 ⟨Nat.le_of_ble_eq_true rfl, Nat.le_of_ble_eq_true rfl⟩ (fun z32193 F H locs hT hz32193 => ?_)
  obtain ⟨hz32193, yz32193⟩ := hz32193
  have pf0 := (yz32193.1 _ 3 (Or.inr (by decide)) (Or.inr (by decide))).trans pf0
  have v32191 := (yz32193.1 _ 0 (Or.inr (by decide)) (Or.inr (by decide))).trans v32191
  have hfr : (∀ b j : Nat, (tag b ≠ 46 ∨ j ≠ 0) → (tag b ≠ 46 ∨ j ≠ 1) → (tag b ≠ 46 ∨ j ≠ 2) → fld F b j = fld Fo b j) ∧ (∀ b j : Nat, elm F b j = elm Fo b j) := ⟨fun b j n46_0 n46_1 n46_2 => (yz32193.1 b j n46_1 n46_2).trans (hfr.1 b j n46_0 n46_1 n46_2), fun b j  => (yz32193.2 b j ).trans (hfr.2 b j )⟩
  refine lv_goto (tgt := 31) hx hb dX13_free_17 (by decide) ?_
  exact t_iret hQ X hT (⟨rg_all _, hfr⟩) (Nat.le_of_ble_eq_true rfl) (Nat.le_of_ble_eq_true rfl) dX13_free_31
theorem kp_X13_free (l : Launch) (G : KG) (tag : Nat → Nat) (L : List Nat) (Fo : Nat → va_E) (ho : okT G ttC tag L Fo) (p0 : Nat) (m0 : p0 ∈ L) (g0 : tag p0 = 46) : TMi l yX13_free cX13_free 1 (some .int) { frames := 4, cells := 0, slots := 0, locals := 96 } G ttC tag L Fo [.ref p0] (fun r F1 => ((-2147483648) ≤ r.toInt ∧ r.toInt ≤ 2147483647) ∧ ((∀ b j : Nat, (tag b ≠ 46 ∨ j ≠ 0) → (tag b ≠ 46 ∨ j ≠ 1) → (tag b ≠ 46 ∨ j ≠ 2) → fld F1 b j = fld Fo b j) ∧ (∀ b j : Nat, elm F1 b j = elm Fo b j))) := by
  rcases t_fldn ho m0 g0 rfl 3 rfl with h9 | ⟨b9, h9, m9, t9⟩
  · exact km105_X13_free l G tag L Fo ho p0  m0 g0 h9 
  · exact km104_X13_free l G tag L Fo ho p0 b9  m0 g0 m9 (tg_of t9) h9 
set_option maxHeartbeats 4000000 in
set_option maxRecDepth 100000 in
theorem km107_X13_isHouse (l : Launch) (G : KG) (tag : Nat → Nat) (L : List Nat) (F : Nat → va_E) (ho : okT G ttC tag L F) (p0 : Nat) (p1 : Int32) (x0 : Nat) (m0 : p0 ∈ L) (g0 : tag p0 = 46) (mx0 : x0 ∈ L) (gx0 : tag x0 = 45) (pf0 : fld F p0 3 = .ref x0) : TMi l yX13_isHouse cX13_isHouse 2 (some .boolean) { frames := 0, cells := 0, slots := 0, locals := 0 } G ttC tag L F [.ref p0, .int p1] (fun r F1 => F1 = F ∧ ((0 ≤ r.toInt ∧ r.toInt ≤ 1) ∧ (r.toInt ≠ 0 → (0 ≤ p1.toInt ∧ p1.toInt ≤ 3)))) := by
  refine t_bodyi (y := yX13_isHouse) (cd := cX13_isHouse) (mL := 2) (rt := (some .boolean)) (rm := { frames := 0, cells := 0, slots := 0, locals := 0 }) (av := [.ref p0, .int p1]) (by decide) (Nat.le_of_ble_eq_true rfl) ho ?_
  intro p e s m args below meth c ls A Q hQ X hT hl
  have hx := X.1.1
  have hb := X.1.2.1
  have hl : lv_has ls 2 [(0, .ref p0), (1, .int p1)] := hl
  have rp1 := rg_all p1
  refine lv_aload_n hx hb dX13_isHouse_0 rfl (lv_at hl 0 rfl) ?_
  refine t_get (C := RX13) (T := TX13) (N := 37) X hT m0 g0 rfl rfl 3 (by decide) qw_481 inlX13 rfl dX13_isHouse_1 (fun v32305 hv32305 ov32305 => ?_)
  obtain rfl : v32305 = .ref x0 := hv32305.symm.trans pf0
  refine lv_ifnull hx hb dX13_isHouse_4 ?_
  refine lv_iload_n hx hb dX13_isHouse_7 rfl (lv_at hl 1 rfl) ?_
  refine lv_if_lt (tgt := 26) hx hb dX13_isHouse_8 (by decide) (fun c32306 => ?_) (fun c32306 => ?_)
  · have w32307 := cv_lt (rfl : p1.toInt = p1.toInt) (by decide : (0 : Int32).toInt = 0) c32306
    refine lv_iconst (v := 0) hx hb dX13_isHouse_26 (by decide) ?_
    have k32308 : (0 : Int32).toInt = 0 := by decide
    exact t_zret hQ X hT (by decide) (⟨rfl, ⟨(by decide), fun h => absurd (by decide) h⟩⟩) (Nat.le_of_ble_eq_true rfl) (Nat.le_of_ble_eq_true rfl) dX13_isHouse_27
  · have w32309 := cv_nlt (rfl : p1.toInt = p1.toInt) (by decide : (0 : Int32).toInt = 0) c32306
    refine lv_iload_n hx hb dX13_isHouse_11 rfl (lv_at hl 1 rfl) ?_
    refine lv_aload_n hx hb dX13_isHouse_12 rfl (lv_at hl 0 rfl) ?_
    refine t_get (C := RX13) (T := TX13) (N := 37) X hT m0 g0 rfl rfl 3 (by decide) qw_481 inlX13 rfl dX13_isHouse_13 (fun v32310 hv32310 ov32310 => ?_)
    obtain rfl : v32310 = .ref x0 := hv32310.symm.trans pf0
    refine t_getN (C := RX12) (T := TX12) (N := 31) X hT mx0 gx0 rfl rfl 8 (by decide) (List.mem_of_getElem? (i := 12) rfl) inlX12 rfl dX13_isHouse_16 (fun v32311 hv32311 ov32311 => ?_)
    obtain ⟨z32312, rfl, rz32312⟩ := okV_i ov32311
    refine lv_icmp_ge (tgt := 26) hx hb dX13_isHouse_19 (by decide) (fun c32313 => ?_) (fun c32313 => ?_)
    · have w32314 := cv_le (rfl : z32312.toInt = z32312.toInt) (rfl : p1.toInt = p1.toInt) c32313
      refine lv_iconst (v := 0) hx hb dX13_isHouse_26 (by decide) ?_
      have k32315 : (0 : Int32).toInt = 0 := by decide
      exact t_zret hQ X hT (by decide) (⟨rfl, ⟨(by decide), fun h => absurd (by decide) h⟩⟩) (Nat.le_of_ble_eq_true rfl) (Nat.le_of_ble_eq_true rfl) dX13_isHouse_27
    · have w32316 := cv_nle (rfl : z32312.toInt = z32312.toInt) (rfl : p1.toInt = p1.toInt) c32313
      refine lv_iconst (v := 1) hx hb dX13_isHouse_22 (by decide) ?_
      refine lv_goto (tgt := 27) hx hb dX13_isHouse_23 (by decide) ?_
      have k32317 : (1 : Int32).toInt = 1 := by decide
      exact t_zret hQ X hT (by decide) (⟨rfl, ⟨(by decide), fun _ => by omega⟩⟩) (Nat.le_of_ble_eq_true rfl) (Nat.le_of_ble_eq_true rfl) dX13_isHouse_27
set_option maxHeartbeats 4000000 in
set_option maxRecDepth 100000 in
theorem km108_X13_doorX (l : Launch) (G : KG) (tag : Nat → Nat) (L : List Nat) (F : Nat → va_E) (ho : okT G ttC tag L F) (p0 : Int32) (p1 : Int32) (p2 : Int32)  : TMi l yX13_doorX cX13_doorX 3 (some .int) { frames := 0, cells := 0, slots := 0, locals := 0 } G ttC tag L F [.int p0, .int p1, .int p2] (fun r F1 => F1 = F ∧ ((-2147483648) ≤ r.toInt ∧ r.toInt ≤ 2147483647)) := by
  refine t_bodyi (y := yX13_doorX) (cd := cX13_doorX) (mL := 3) (rt := (some .int)) (rm := { frames := 0, cells := 0, slots := 0, locals := 0 }) (av := [.int p0, .int p1, .int p2]) (by decide) (Nat.le_of_ble_eq_true rfl) ho ?_
  intro p e s m args below meth c ls A Q hQ X hT hl
  have hx := X.1.1
  have hb := X.1.2.1
  have hl : lv_has ls 3 [(0, .int p0), (1, .int p1), (2, .int p2)] := hl
  have rp0 := rg_all p0
  have rp1 := rg_all p1
  have rp2 := rg_all p2
  refine lv_iload_n hx hb dX13_doorX_0 rfl (lv_at hl 1 rfl) ?_
  refine lv_iconst (v := 1) hx hb dX13_doorX_1 (by decide) ?_
  refine lv_icmp_ne (tgt := 9) hx hb dX13_doorX_2 (by decide) (fun c32486 => ?_) (fun c32486 => ?_)
  · have w32487 := cv_ne (rfl : p1.toInt = p1.toInt) (by decide : (1 : Int32).toInt = 1) c32486
    refine lv_iload_n hx hb dX13_doorX_9 rfl (lv_at hl 1 rfl) ?_
    refine lv_iconst (v := 3) hx hb dX13_doorX_10 (by decide) ?_
    refine lv_icmp_ne (tgt := 19) hx hb dX13_doorX_11 (by decide) (fun c32488 => ?_) (fun c32488 => ?_)
    · have w32489 := cv_ne (rfl : p1.toInt = p1.toInt) (by decide : (3 : Int32).toInt = 3) c32488
      refine lv_iload_n hx hb dX13_doorX_19 rfl (lv_at hl 2 rfl) ?_
      refine lv_iconst (v := 1) hx hb dX13_doorX_20 (by decide) ?_
      refine lv_iadd hx hb dX13_doorX_21 ?_
      refine lv_topi (fun z32490 ez32490 => ?_)
      have rz32490 := rg_all z32490
      refine lv_iload_n hx hb dX13_doorX_22 rfl (lv_at hl 0 rfl) ?_
      refine lv_isub hx hb dX13_doorX_23 ?_
      refine lv_topi (fun z32491 ez32491 => ?_)
      have rz32491 := rg_all z32491
      exact t_iret hQ X hT (⟨rfl, rg_all _⟩) (Nat.le_of_ble_eq_true rfl) (Nat.le_of_ble_eq_true rfl) dX13_doorX_24
    · have w32492 := cv_eq (rfl : p1.toInt = p1.toInt) (by decide : (3 : Int32).toInt = 3) c32488
      refine lv_iload_n hx hb dX13_doorX_14 rfl (lv_at hl 0 rfl) ?_
      refine lv_ineg hx hb dX13_doorX_15 ?_
      refine lv_topi (fun z32493 ez32493 => ?_)
      have rz32493 := rg_all z32493
      refine lv_goto (tgt := 24) hx hb dX13_doorX_16 (by decide) ?_
      exact t_iret hQ X hT (⟨rfl, rg_all _⟩) (Nat.le_of_ble_eq_true rfl) (Nat.le_of_ble_eq_true rfl) dX13_doorX_24
  · have w32494 := cv_eq (rfl : p1.toInt = p1.toInt) (by decide : (1 : Int32).toInt = 1) c32486
    refine lv_iload_n hx hb dX13_doorX_5 rfl (lv_at hl 0 rfl) ?_
    refine lv_goto (tgt := 24) hx hb dX13_doorX_6 (by decide) ?_
    exact t_iret hQ X hT (⟨rfl, rg_all _⟩) (Nat.le_of_ble_eq_true rfl) (Nat.le_of_ble_eq_true rfl) dX13_doorX_24
set_option maxHeartbeats 4000000 in
set_option maxRecDepth 100000 in
theorem km109_X13_outX (l : Launch) (G : KG) (tag : Nat → Nat) (L : List Nat) (F : Nat → va_E) (ho : okT G ttC tag L F) (p0 : Int32)  : TMi l yX13_outX cX13_outX 1 (some .int) { frames := 0, cells := 0, slots := 0, locals := 0 } G ttC tag L F [.int p0] (fun r F1 => F1 = F ∧ ((-1) ≤ r.toInt ∧ r.toInt ≤ 1)) := by
  refine t_bodyi (y := yX13_outX) (cd := cX13_outX) (mL := 1) (rt := (some .int)) (rm := { frames := 0, cells := 0, slots := 0, locals := 0 }) (av := [.int p0]) (by decide) (Nat.le_of_ble_eq_true rfl) ho ?_
  intro p e s m args below meth c ls A Q hQ X hT hl
  have hx := X.1.1
  have hb := X.1.2.1
  have hl : lv_has ls 1 [(0, .int p0)] := hl
  have rp0 := rg_all p0
  refine lv_iload_n hx hb dX13_outX_0 rfl (lv_at hl 0 rfl) ?_
  refine lv_iconst (v := 1) hx hb dX13_outX_1 (by decide) ?_
  refine lv_icmp_ne (tgt := 9) hx hb dX13_outX_2 (by decide) (fun c32563 => ?_) (fun c32563 => ?_)
  · have w32564 := cv_ne (rfl : p0.toInt = p0.toInt) (by decide : (1 : Int32).toInt = 1) c32563
    refine lv_iload_n hx hb dX13_outX_9 rfl (lv_at hl 0 rfl) ?_
    refine lv_iconst (v := 3) hx hb dX13_outX_10 (by decide) ?_
    refine lv_icmp_ne (tgt := 18) hx hb dX13_outX_11 (by decide) (fun c32565 => ?_) (fun c32565 => ?_)
    · have w32566 := cv_ne (rfl : p0.toInt = p0.toInt) (by decide : (3 : Int32).toInt = 3) c32565
      refine lv_iconst (v := 0) hx hb dX13_outX_18 (by decide) ?_
      have k32567 : (0 : Int32).toInt = 0 := by decide
      exact t_iret hQ X hT (⟨rfl, (by decide)⟩) (Nat.le_of_ble_eq_true rfl) (Nat.le_of_ble_eq_true rfl) dX13_outX_19
    · have w32568 := cv_eq (rfl : p0.toInt = p0.toInt) (by decide : (3 : Int32).toInt = 3) c32565
      refine lv_iconst (v := (-1)) hx hb dX13_outX_14 (by decide) ?_
      refine lv_goto (tgt := 19) hx hb dX13_outX_15 (by decide) ?_
      have k32569 : ((-1) : Int32).toInt = (-1) := by decide
      exact t_iret hQ X hT (⟨rfl, (by decide)⟩) (Nat.le_of_ble_eq_true rfl) (Nat.le_of_ble_eq_true rfl) dX13_outX_19
  · have w32570 := cv_eq (rfl : p0.toInt = p0.toInt) (by decide : (1 : Int32).toInt = 1) c32563
    refine lv_iconst (v := 1) hx hb dX13_outX_5 (by decide) ?_
    refine lv_goto (tgt := 19) hx hb dX13_outX_6 (by decide) ?_
    have k32571 : (1 : Int32).toInt = 1 := by decide
    exact t_iret hQ X hT (⟨rfl, (by decide)⟩) (Nat.le_of_ble_eq_true rfl) (Nat.le_of_ble_eq_true rfl) dX13_outX_19
set_option maxHeartbeats 4000000 in
set_option maxRecDepth 100000 in
theorem km110_X13_doorY (l : Launch) (G : KG) (tag : Nat → Nat) (L : List Nat) (F : Nat → va_E) (ho : okT G ttC tag L F) (p0 : Int32) (p1 : Int32) (p2 : Int32)  : TMi l yX13_doorY cX13_doorY 3 (some .int) { frames := 0, cells := 0, slots := 0, locals := 0 } G ttC tag L F [.int p0, .int p1, .int p2] (fun r F1 => F1 = F ∧ ((-2147483648) ≤ r.toInt ∧ r.toInt ≤ 2147483647)) := by
  refine t_bodyi (y := yX13_doorY) (cd := cX13_doorY) (mL := 3) (rt := (some .int)) (rm := { frames := 0, cells := 0, slots := 0, locals := 0 }) (av := [.int p0, .int p1, .int p2]) (by decide) (Nat.le_of_ble_eq_true rfl) ho ?_
  intro p e s m args below meth c ls A Q hQ X hT hl
  have hx := X.1.1
  have hb := X.1.2.1
  have hl : lv_has ls 3 [(0, .int p0), (1, .int p1), (2, .int p2)] := hl
  have rp0 := rg_all p0
  have rp1 := rg_all p1
  have rp2 := rg_all p2
  refine lv_iload_n hx hb dX13_doorY_0 rfl (lv_at hl 1 rfl) ?_
  refine lv_iconst (v := 2) hx hb dX13_doorY_1 (by decide) ?_
  refine lv_icmp_ne (tgt := 9) hx hb dX13_doorY_2 (by decide) (fun c32674 => ?_) (fun c32674 => ?_)
  · have w32675 := cv_ne (rfl : p1.toInt = p1.toInt) (by decide : (2 : Int32).toInt = 2) c32674
    refine lv_iload_n hx hb dX13_doorY_9 rfl (lv_at hl 1 rfl) ?_
    refine lv_if_ne (tgt := 18) hx hb dX13_doorY_10 (by decide) (fun c32676 => ?_) (fun c32676 => ?_)
    · have w32677 := cv_ne (rfl : p1.toInt = p1.toInt) (by decide : (0 : Int32).toInt = 0) c32676
      refine lv_iload_n hx hb dX13_doorY_18 rfl (lv_at hl 2 rfl) ?_
      refine lv_iconst (v := 1) hx hb dX13_doorY_19 (by decide) ?_
      refine lv_iadd hx hb dX13_doorY_20 ?_
      refine lv_topi (fun z32678 ez32678 => ?_)
      have rz32678 := rg_all z32678
      refine lv_iload_n hx hb dX13_doorY_21 rfl (lv_at hl 0 rfl) ?_
      refine lv_isub hx hb dX13_doorY_22 ?_
      refine lv_topi (fun z32679 ez32679 => ?_)
      have rz32679 := rg_all z32679
      exact t_iret hQ X hT (⟨rfl, rg_all _⟩) (Nat.le_of_ble_eq_true rfl) (Nat.le_of_ble_eq_true rfl) dX13_doorY_23
    · have w32680 := cv_eq (rfl : p1.toInt = p1.toInt) (by decide : (0 : Int32).toInt = 0) c32676
      refine lv_iload_n hx hb dX13_doorY_13 rfl (lv_at hl 0 rfl) ?_
      refine lv_ineg hx hb dX13_doorY_14 ?_
      refine lv_topi (fun z32681 ez32681 => ?_)
      have rz32681 := rg_all z32681
      refine lv_goto (tgt := 23) hx hb dX13_doorY_15 (by decide) ?_
      exact t_iret hQ X hT (⟨rfl, rg_all _⟩) (Nat.le_of_ble_eq_true rfl) (Nat.le_of_ble_eq_true rfl) dX13_doorY_23
  · have w32682 := cv_eq (rfl : p1.toInt = p1.toInt) (by decide : (2 : Int32).toInt = 2) c32674
    refine lv_iload_n hx hb dX13_doorY_5 rfl (lv_at hl 0 rfl) ?_
    refine lv_goto (tgt := 23) hx hb dX13_doorY_6 (by decide) ?_
    exact t_iret hQ X hT (⟨rfl, rg_all _⟩) (Nat.le_of_ble_eq_true rfl) (Nat.le_of_ble_eq_true rfl) dX13_doorY_23
set_option maxHeartbeats 4000000 in
set_option maxRecDepth 100000 in
theorem km111_X13_outY (l : Launch) (G : KG) (tag : Nat → Nat) (L : List Nat) (F : Nat → va_E) (ho : okT G ttC tag L F) (p0 : Int32)  : TMi l yX13_outY cX13_outY 1 (some .int) { frames := 0, cells := 0, slots := 0, locals := 0 } G ttC tag L F [.int p0] (fun r F1 => F1 = F ∧ ((-1) ≤ r.toInt ∧ r.toInt ≤ 1)) := by
  refine t_bodyi (y := yX13_outY) (cd := cX13_outY) (mL := 1) (rt := (some .int)) (rm := { frames := 0, cells := 0, slots := 0, locals := 0 }) (av := [.int p0]) (by decide) (Nat.le_of_ble_eq_true rfl) ho ?_
  intro p e s m args below meth c ls A Q hQ X hT hl
  have hx := X.1.1
  have hb := X.1.2.1
  have hl : lv_has ls 1 [(0, .int p0)] := hl
  have rp0 := rg_all p0
  refine lv_iload_n hx hb dX13_outY_0 rfl (lv_at hl 0 rfl) ?_
  refine lv_iconst (v := 2) hx hb dX13_outY_1 (by decide) ?_
  refine lv_icmp_ne (tgt := 9) hx hb dX13_outY_2 (by decide) (fun c32751 => ?_) (fun c32751 => ?_)
  · have w32752 := cv_ne (rfl : p0.toInt = p0.toInt) (by decide : (2 : Int32).toInt = 2) c32751
    refine lv_iload_n hx hb dX13_outY_9 rfl (lv_at hl 0 rfl) ?_
    refine lv_if_ne (tgt := 17) hx hb dX13_outY_10 (by decide) (fun c32753 => ?_) (fun c32753 => ?_)
    · have w32754 := cv_ne (rfl : p0.toInt = p0.toInt) (by decide : (0 : Int32).toInt = 0) c32753
      refine lv_iconst (v := 0) hx hb dX13_outY_17 (by decide) ?_
      have k32755 : (0 : Int32).toInt = 0 := by decide
      exact t_iret hQ X hT (⟨rfl, (by decide)⟩) (Nat.le_of_ble_eq_true rfl) (Nat.le_of_ble_eq_true rfl) dX13_outY_18
    · have w32756 := cv_eq (rfl : p0.toInt = p0.toInt) (by decide : (0 : Int32).toInt = 0) c32753
      refine lv_iconst (v := (-1)) hx hb dX13_outY_13 (by decide) ?_
      refine lv_goto (tgt := 18) hx hb dX13_outY_14 (by decide) ?_
      have k32757 : ((-1) : Int32).toInt = (-1) := by decide
      exact t_iret hQ X hT (⟨rfl, (by decide)⟩) (Nat.le_of_ble_eq_true rfl) (Nat.le_of_ble_eq_true rfl) dX13_outY_18
  · have w32758 := cv_eq (rfl : p0.toInt = p0.toInt) (by decide : (2 : Int32).toInt = 2) c32751
    refine lv_iconst (v := 1) hx hb dX13_outY_5 (by decide) ?_
    refine lv_goto (tgt := 18) hx hb dX13_outY_6 (by decide) ?_
    have k32759 : (1 : Int32).toInt = 1 := by decide
    exact t_iret hQ X hT (⟨rfl, (by decide)⟩) (Nat.le_of_ble_eq_true rfl) (Nat.le_of_ble_eq_true rfl) dX13_outY_18
set_option maxHeartbeats 4000000 in
set_option maxRecDepth 100000 in
theorem km112_X12_isLand (l : Launch) (G : KG) (tag : Nat → Nat) (L : List Nat) (F : Nat → va_E) (ho : okT G ttC tag L F) (p0 : Nat) (p1 : Int32) (p2 : Int32) (m0 : p0 ∈ L) (g0 : tag p0 = 45) : TMi l yX12_isLand cX12_isLand 3 (some .boolean) { frames := 1, cells := 0, slots := 0, locals := 22 } G ttC tag L F [.ref p0, .int p1, .int p2] (fun r F1 => F1 = F ∧ (0 ≤ r.toInt ∧ r.toInt ≤ 1)) := by
  refine t_bodyi (y := yX12_isLand) (cd := cX12_isLand) (mL := 3) (rt := (some .boolean)) (rm := { frames := 1, cells := 0, slots := 0, locals := 22 }) (av := [.ref p0, .int p1, .int p2]) (by decide) (Nat.le_of_ble_eq_true rfl) ho ?_
  intro p e s m args below meth c ls A Q hQ X hT hl
  have hx := X.1.1
  have hb := X.1.2.1
  have hl : lv_has ls 3 [(0, .ref p0), (1, .int p1), (2, .int p2)] := hl
  have rp1 := rg_all p1
  have rp2 := rg_all p2
  refine lv_iload_n hx hb dX12_isLand_0 rfl (lv_at hl 1 rfl) ?_
  refine lv_iconst (v := 0) hx hb dX12_isLand_1 (by decide) ?_
  refine lv_aload_n hx hb dX12_isLand_2 rfl (lv_at hl 0 rfl) ?_
  refine t_get (C := RX12) (T := TX12) (N := 31) X hT m0 g0 rfl rfl 0 (by decide) qw_627 inlX12 rfl dX12_isLand_3 (fun v33059 hv33059 ov33059 => ?_)
  obtain ⟨z33060, rfl, rz33060⟩ := okV_i ov33059
  refine lv_iconst (v := 1) hx hb dX12_isLand_6 (by decide) ?_
  refine lv_isub hx hb dX12_isLand_7 ?_
  refine lv_topi (fun z33061 ez33061 => ?_)
  have hz33061 : z33061.toInt = z33060.toInt - 1 := ar_sub ez33061 (rfl : z33060.toInt = z33060.toInt) (by decide : (1 : Int32).toInt = 1) (by omega) (by omega)
  have rz33061 : 0 ≤ z33061.toInt ∧ z33061.toInt ≤ 11 := by omega
  refine t_cNi (n := 3) (host := "YearSkinsModel") (As := [.int p1, .int 0, .int z33061]) (rest := []) X hT (km19_X13_within l G tag L F hT.2.2.2 p1 0 z33061 ) (List.mem_of_getElem? (i := 9) rfl) qw_569 qw_5 qw_570 ⟨by decide +kernel, by decide +kernel, by decide +kernel⟩ ⟨Nat.le_of_ble_eq_true rfl, Nat.le_of_ble_eq_true rfl⟩ hl rfl rfl (Nat.le_of_ble_eq_true rfl) dX12_isLand_8 ⟨Nat.le_of_ble_eq_true rfl, Nat.le_of_ble_eq_true rfl⟩ (fun z33062 F9 H locs hT hz33062 => ?_)
  obtain ⟨fz33062, hz33062, xz33062_0⟩ := hz33062
  rw [fz33062] at hT
  have k33063 : (0 : Int32).toInt = 0 := by decide
  refine lv_if_eq (tgt := 48) hx hb dX12_isLand_11 (by decide) (fun c33064 => ?_) (fun c33064 => ?_)
  · have w33065 := cv_eq (rfl : z33062.toInt = z33062.toInt) (by decide : (0 : Int32).toInt = 0) c33064
    refine lv_iconst (v := 0) hx hb dX12_isLand_48 (by decide) ?_
    have k33066 : (0 : Int32).toInt = 0 := by decide
    exact t_zret hQ X hT (by decide) (⟨rfl, (by decide)⟩) (Nat.le_of_ble_eq_true rfl) (Nat.le_of_ble_eq_true rfl) dX12_isLand_49
  · have w33067 := cv_ne (rfl : z33062.toInt = z33062.toInt) (by decide : (0 : Int32).toInt = 0) c33064
    have w33068 := xz33062_0 (by omega)
    refine lv_iload_n hx hb dX12_isLand_14 rfl (lv_at hl 2 rfl) ?_
    refine lv_iconst (v := 0) hx hb dX12_isLand_15 (by decide) ?_
    refine lv_aload_n hx hb dX12_isLand_16 rfl (lv_at hl 0 rfl) ?_
    refine t_get (C := RX12) (T := TX12) (N := 31) X hT m0 g0 rfl rfl 1 (by decide) qw_653 inlX12 rfl dX12_isLand_17 (fun v33069 hv33069 ov33069 => ?_)
    obtain ⟨z33070, rfl, rz33070⟩ := okV_i ov33069
    refine lv_iconst (v := 1) hx hb dX12_isLand_20 (by decide) ?_
    refine lv_isub hx hb dX12_isLand_21 ?_
    refine lv_topi (fun z33071 ez33071 => ?_)
    have hz33071 : z33071.toInt = z33070.toInt - 1 := ar_sub ez33071 (rfl : z33070.toInt = z33070.toInt) (by decide : (1 : Int32).toInt = 1) (by omega) (by omega)
    have rz33071 : (-1) ≤ z33071.toInt ∧ z33071.toInt ≤ 11 := by omega
    refine t_cNi (n := 3) (host := "YearSkinsModel") (As := [.int p2, .int 0, .int z33071]) (rest := []) X hT (km19_X13_within l G tag L F hT.2.2.2 p2 0 z33071 ) (List.mem_of_getElem? (i := 9) rfl) qw_569 qw_5 qw_570 ⟨by decide +kernel, by decide +kernel, by decide +kernel⟩ ⟨Nat.le_of_ble_eq_true rfl, Nat.le_of_ble_eq_true rfl⟩ hl rfl rfl (Nat.le_of_ble_eq_true rfl) dX12_isLand_22 ⟨Nat.le_of_ble_eq_true rfl, Nat.le_of_ble_eq_true rfl⟩ (fun z33072 F9 H locs hT hz33072 => ?_)
    obtain ⟨fz33072, hz33072, xz33072_0⟩ := hz33072
    rw [fz33072] at hT
    have k33073 : (0 : Int32).toInt = 0 := by decide
    refine lv_if_eq (tgt := 48) hx hb dX12_isLand_25 (by decide) (fun c33074 => ?_) (fun c33074 => ?_)
    · have w33075 := cv_eq (rfl : z33072.toInt = z33072.toInt) (by decide : (0 : Int32).toInt = 0) c33074
      refine lv_iconst (v := 0) hx hb dX12_isLand_48 (by decide) ?_
      have k33076 : (0 : Int32).toInt = 0 := by decide
      exact t_zret hQ X hT (by decide) (⟨rfl, (by decide)⟩) (Nat.le_of_ble_eq_true rfl) (Nat.le_of_ble_eq_true rfl) dX12_isLand_49
    · have w33077 := cv_ne (rfl : z33072.toInt = z33072.toInt) (by decide : (0 : Int32).toInt = 0) c33074
      have w33078 := xz33072_0 (by omega)
      refine lv_aload_n hx hb dX12_isLand_28 rfl (lv_at hl 0 rfl) ?_
      refine t_get (C := RX12) (T := TX12) (N := 31) X hT m0 g0 rfl rfl 15 (by decide) qw_492 inlX12 rfl dX12_isLand_29 (fun v33079 hv33079 ov33079 => ?_)
      obtain ⟨b33080, rfl, mb33080, gb33080⟩ := okV_r ov33079
      have gb33080 : tag b33080 = 28 := tg_of gb33080
      refine lv_aload_n hx hb dX12_isLand_32 rfl (lv_at hl 0 rfl) ?_
      refine t_get (C := RX12) (T := TX12) (N := 31) X hT m0 g0 rfl rfl 0 (by decide) qw_627 inlX12 rfl dX12_isLand_33 (fun v33081 hv33081 ov33081 => ?_)
      obtain rfl : v33081 = .int z33060 := hv33081.symm.trans hv33059
      refine lv_iload_n hx hb dX12_isLand_36 rfl (lv_at hl 2 rfl) ?_
      refine lv_imul hx hb dX12_isLand_37 ?_
      refine lv_topi (fun z33082 ez33082 => ?_)
      have rz33082 : 0 ≤ z33082.toInt ∧ z33082.toInt ≤ 132 := ar_mulb ez33082 (A := 12) (B := 11) (by omega) (by omega) (by decide) (by decide)
      refine lv_iload_n hx hb dX12_isLand_38 rfl (lv_at hl 1 rfl) ?_
      refine lv_iadd hx hb dX12_isLand_39 ?_
      refine lv_topi (fun z33083 ez33083 => ?_)
      have hz33083 : z33083.toInt = z33082.toInt + p1.toInt := ar_add ez33083 (rfl : z33082.toInt = z33082.toInt) (rfl : p1.toInt = p1.toInt) (by omega) (by omega)
      have rz33083 : 0 ≤ z33083.toInt ∧ z33083.toInt ≤ 143 := by omega
      refine t_zld X hT mb33080 gb33080 rfl (by omega) dX12_isLand_40 (fun z33084 vz33084 rz33084 => ?_)
      have rz33084 : 0 ≤ z33084.toInt ∧ z33084.toInt ≤ 1 := rz33084
      refine lv_if_ne (tgt := 48) hx hb dX12_isLand_41 (by decide) (fun c33085 => ?_) (fun c33085 => ?_)
      · have w33086 := cv_ne (rfl : z33084.toInt = z33084.toInt) (by decide : (0 : Int32).toInt = 0) c33085
        refine lv_iconst (v := 0) hx hb dX12_isLand_48 (by decide) ?_
        have k33087 : (0 : Int32).toInt = 0 := by decide
        exact t_zret hQ X hT (by decide) (⟨rfl, (by decide)⟩) (Nat.le_of_ble_eq_true rfl) (Nat.le_of_ble_eq_true rfl) dX12_isLand_49
      · have w33088 := cv_eq (rfl : z33084.toInt = z33084.toInt) (by decide : (0 : Int32).toInt = 0) c33085
        refine lv_iconst (v := 1) hx hb dX12_isLand_44 (by decide) ?_
        refine lv_goto (tgt := 49) hx hb dX12_isLand_45 (by decide) ?_
        have k33089 : (1 : Int32).toInt = 1 := by decide
        exact t_zret hQ X hT (by decide) (⟨rfl, (by decide)⟩) (Nat.le_of_ble_eq_true rfl) (Nat.le_of_ble_eq_true rfl) dX12_isLand_49
set_option maxHeartbeats 4000000 in
set_option maxRecDepth 100000 in
theorem km113_X13_isFree (l : Launch) (G : KG) (tag : Nat → Nat) (L : List Nat) (F : Nat → va_E) (ho : okT G ttC tag L F) (p0 : Nat) (p1 : Nat) (p2 : Int32) (p3 : Int32) (p4 : Int32) (p5 : Int32) (m0 : p0 ∈ L) (g0 : tag p0 = 45) (m1 : p1 ∈ L) (g1 : tag p1 = 37) (h2 : 0 ≤ p2.toInt ∧ p2.toInt ≤ 3) : TMi l yX13_isFree cX13_isFree 8 (some .boolean) { frames := 3, cells := 0, slots := 0, locals := 71 } G ttC tag L F [.ref p0, .ref p1, .int p2, .int p3, .int p4, .int p5] (fun r F1 => F1 = F ∧ (0 ≤ r.toInt ∧ r.toInt ≤ 1)) := by
  refine t_bodyi (y := yX13_isFree) (cd := cX13_isFree) (mL := 8) (rt := (some .boolean)) (rm := { frames := 3, cells := 0, slots := 0, locals := 71 }) (av := [.ref p0, .ref p1, .int p2, .int p3, .int p4, .int p5]) (by decide) (Nat.le_of_ble_eq_true rfl) ho ?_
  intro p e s m args below meth c ls A Q hQ X hT hl
  have hx := X.1.1
  have hb := X.1.2.1
  have hl : lv_has ls 8 [(0, .ref p0), (1, .ref p1), (2, .int p2), (3, .int p3), (4, .int p4), (5, .int p5)] := hl
  have rp3 := rg_all p3
  have rp4 := rg_all p4
  have rp5 := rg_all p5
  refine lv_aload_n hx hb dX13_isFree_0 rfl (lv_at hl 0 rfl) ?_
  refine lv_iload_n hx hb dX13_isFree_1 rfl (lv_at hl 2 rfl) ?_
  refine t_cVi (n := 1) (C := RX12) (T := TX12) (N := 31) (As := [.int p2]) (rest := []) X hT (km89_X12_x l G tag L F hT.2.2.2 p0 p2 m0 g0 (by omega)) m0 g0 rfl rfl qw_648 qw_624 qw_625 qw_476 qw_626 ⟨rfl, by decide +kernel, by decide +kernel, by decide +kernel⟩ ⟨Nat.le_of_ble_eq_true rfl, Nat.le_of_ble_eq_true rfl⟩ hl rfl rfl (Nat.le_of_ble_eq_true rfl) dX13_isFree_2 ⟨Nat.le_of_ble_eq_true rfl, Nat.le_of_ble_eq_true rfl⟩ (fun z33278 F9 H locs hT hz33278 => ?_)
  obtain ⟨fz33278, hz33278⟩ := hz33278
  rw [fz33278] at hT
  refine lv_iload_n hx hb dX13_isFree_5 rfl (lv_at hl 3 rfl) ?_
  refine lv_iload hx hb dX13_isFree_6 (lv_at hl 4 rfl) ?_
  refine lv_iload hx hb dX13_isFree_8 (lv_at hl 5 rfl) ?_
  refine t_cSi (n := 3) (As := [.int p3, .int p4, .int p5]) (rest := [.int z33278]) X hT (km108_X13_doorX l G tag L F hT.2.2.2 p3 p4 p5 ) qw_807 qw_808 qw_5 qw_809 ⟨by decide +kernel, by decide +kernel, by decide +kernel⟩ ⟨Nat.le_of_ble_eq_true rfl, Nat.le_of_ble_eq_true rfl⟩ hl rfl rfl (Nat.le_of_ble_eq_true rfl) dX13_isFree_10 ⟨Nat.le_of_ble_eq_true rfl, Nat.le_of_ble_eq_true rfl⟩ (fun z33279 F9 H locs hT hz33279 => ?_)
  obtain ⟨fz33279, hz33279⟩ := hz33279
  rw [fz33279] at hT
  refine lv_iadd hx hb dX13_isFree_13 ?_
  refine lv_topi (fun z33280 ez33280 => ?_)
  have rz33280 := rg_all z33280
  refine lv_iload hx hb dX13_isFree_14 (lv_at hl 4 rfl) ?_
  refine t_cSi (n := 1) (As := [.int p4]) (rest := [.int z33280]) X hT (km109_X13_outX l G tag L F hT.2.2.2 p4 ) qw_810 qw_811 qw_5 qw_812 ⟨by decide +kernel, by decide +kernel, by decide +kernel⟩ ⟨Nat.le_of_ble_eq_true rfl, Nat.le_of_ble_eq_true rfl⟩ hl rfl rfl (Nat.le_of_ble_eq_true rfl) dX13_isFree_16 ⟨Nat.le_of_ble_eq_true rfl, Nat.le_of_ble_eq_true rfl⟩ (fun z33281 F9 H locs hT hz33281 => ?_)
  obtain ⟨fz33281, hz33281⟩ := hz33281
  rw [fz33281] at hT
  refine lv_iadd hx hb dX13_isFree_19 ?_
  refine lv_topi (fun z33282 ez33282 => ?_)
  have rz33282 := rg_all z33282
  refine lv_istore (lv' := [(6, .int z33282), (0, .ref p0), (1, .ref p1), (2, .int p2), (3, .int p3), (4, .int p4), (5, .int p5)]) hx hb dX13_isFree_20 hl (by decide) rfl (fun ls hl => ?_)
  refine lv_aload_n hx hb dX13_isFree_22 rfl (lv_at hl 1 rfl) ?_
  refine lv_iload_n hx hb dX13_isFree_23 rfl (lv_at hl 3 rfl) ?_
  refine t_cVi (n := 1) (C := RX12) (T := TX12) (N := 31) (As := [.int p2]) (rest := []) X hT (km90_X12_y l G tag L F hT.2.2.2 p0 p2 m0 g0 (by omega)) m0 g0 rfl rfl qw_647 qw_629 qw_630 qw_476 qw_631 ⟨rfl, by decide +kernel, by decide +kernel, by decide +kernel⟩ ⟨Nat.le_of_ble_eq_true rfl, Nat.le_of_ble_eq_true rfl⟩ hl rfl rfl (Nat.le_of_ble_eq_true rfl) dX13_isFree_24 ⟨Nat.le_of_ble_eq_true rfl, Nat.le_of_ble_eq_true rfl⟩ (fun z33283 F9 H locs hT hz33283 => ?_)
  obtain ⟨fz33283, hz33283⟩ := hz33283
  rw [fz33283] at hT
  refine lv_iload_n hx hb dX13_isFree_27 rfl (lv_at hl 4 rfl) ?_
  refine lv_iload hx hb dX13_isFree_28 (lv_at hl 5 rfl) ?_
  refine lv_iload hx hb dX13_isFree_30 (lv_at hl 6 rfl) ?_
  refine t_cSi (n := 3) (As := [.int p3, .int p4, .int p5]) (rest := [.int z33283]) X hT (km110_X13_doorY l G tag L F hT.2.2.2 p3 p4 p5 ) qw_813 qw_814 qw_5 qw_815 ⟨by decide +kernel, by decide +kernel, by decide +kernel⟩ ⟨Nat.le_of_ble_eq_true rfl, Nat.le_of_ble_eq_true rfl⟩ hl rfl rfl (Nat.le_of_ble_eq_true rfl) dX13_isFree_32 ⟨Nat.le_of_ble_eq_true rfl, Nat.le_of_ble_eq_true rfl⟩ (fun z33284 F9 H locs hT hz33284 => ?_)
  obtain ⟨fz33284, hz33284⟩ := hz33284
  rw [fz33284] at hT
  refine lv_iadd hx hb dX13_isFree_35 ?_
  refine lv_topi (fun z33285 ez33285 => ?_)
  have rz33285 := rg_all z33285
  refine lv_iload hx hb dX13_isFree_36 (lv_at hl 5 rfl) ?_
  refine t_cSi (n := 1) (As := [.int p4]) (rest := [.int z33285]) X hT (km111_X13_outY l G tag L F hT.2.2.2 p4 ) qw_816 qw_817 qw_5 qw_818 ⟨by decide +kernel, by decide +kernel, by decide +kernel⟩ ⟨Nat.le_of_ble_eq_true rfl, Nat.le_of_ble_eq_true rfl⟩ hl rfl rfl (Nat.le_of_ble_eq_true rfl) dX13_isFree_38 ⟨Nat.le_of_ble_eq_true rfl, Nat.le_of_ble_eq_true rfl⟩ (fun z33286 F9 H locs hT hz33286 => ?_)
  obtain ⟨fz33286, hz33286⟩ := hz33286
  rw [fz33286] at hT
  refine lv_iadd hx hb dX13_isFree_41 ?_
  refine lv_topi (fun z33287 ez33287 => ?_)
  have rz33287 := rg_all z33287
  refine lv_istore (lv' := [(7, .int z33287), (6, .int z33282), (0, .ref p0), (1, .ref p1), (2, .int p2), (3, .int p3), (4, .int p4), (5, .int p5)]) hx hb dX13_isFree_42 hl (by decide) rfl (fun ls hl => ?_)
  refine lv_aload_n hx hb dX13_isFree_44 rfl (lv_at hl 2 rfl) ?_
  refine lv_iload hx hb dX13_isFree_45 (lv_at hl 1 rfl) ?_
  refine lv_iload hx hb dX13_isFree_47 (lv_at hl 0 rfl) ?_
  refine t_cVi (n := 2) (C := RX12) (T := TX12) (N := 31) (As := [.int z33282, .int z33287]) (rest := []) X hT (km112_X12_isLand l G tag L F hT.2.2.2 p0 z33282 z33287 m0 g0) m0 g0 rfl rfl qw_649 qw_650 qw_651 qw_476 qw_652 ⟨rfl, by decide +kernel, by decide +kernel, by decide +kernel⟩ ⟨Nat.le_of_ble_eq_true rfl, Nat.le_of_ble_eq_true rfl⟩ hl rfl rfl (Nat.le_of_ble_eq_true rfl) dX13_isFree_49 ⟨Nat.le_of_ble_eq_true rfl, Nat.le_of_ble_eq_true rfl⟩ (fun z33288 F9 H locs hT hz33288 => ?_)
  obtain ⟨fz33288, hz33288⟩ := hz33288
  rw [fz33288] at hT
  refine lv_if_eq (tgt := 71) hx hb dX13_isFree_52 (by decide) (fun c33289 => ?_) (fun c33289 => ?_)
  · have w33290 := cv_eq (rfl : z33288.toInt = z33288.toInt) (by decide : (0 : Int32).toInt = 0) c33289
    refine lv_iconst (v := 0) hx hb dX13_isFree_71 (by decide) ?_
    have k33291 : (0 : Int32).toInt = 0 := by decide
    exact t_zret hQ X hT (by decide) (⟨rfl, (by decide)⟩) (Nat.le_of_ble_eq_true rfl) (Nat.le_of_ble_eq_true rfl) dX13_isFree_72
  · have w33292 := cv_ne (rfl : z33288.toInt = z33288.toInt) (by decide : (0 : Int32).toInt = 0) c33289
    refine lv_aload_n hx hb dX13_isFree_55 rfl (lv_at hl 2 rfl) ?_
    refine lv_aload_n hx hb dX13_isFree_56 rfl (lv_at hl 3 rfl) ?_
    refine lv_iload hx hb dX13_isFree_57 (lv_at hl 1 rfl) ?_
    refine lv_iload hx hb dX13_isFree_59 (lv_at hl 0 rfl) ?_
    refine t_cSi (n := 4) (As := [.ref p0, .ref p1, .int z33282, .int z33287]) (rest := []) X hT (km92_X13_ownersOf l G tag L F hT.2.2.2 p0 p1 z33282 z33287 m0 g0 m1 g1) qw_616 qw_617 qw_5 qw_618 ⟨by decide +kernel, by decide +kernel, by decide +kernel⟩ ⟨Nat.le_of_ble_eq_true rfl, Nat.le_of_ble_eq_true rfl⟩ hl rfl rfl (Nat.le_of_ble_eq_true rfl) dX13_isFree_61 ⟨Nat.le_of_ble_eq_true rfl, Nat.le_of_ble_eq_true rfl⟩ (fun z33293 F9 H locs hT hz33293 => ?_)
    obtain ⟨fz33293, hz33293⟩ := hz33293
    rw [fz33293] at hT
    refine lv_if_ne (tgt := 71) hx hb dX13_isFree_64 (by decide) (fun c33294 => ?_) (fun c33294 => ?_)
    · have w33295 := cv_ne (rfl : z33293.toInt = z33293.toInt) (by decide : (0 : Int32).toInt = 0) c33294
      refine lv_iconst (v := 0) hx hb dX13_isFree_71 (by decide) ?_
      have k33296 : (0 : Int32).toInt = 0 := by decide
      exact t_zret hQ X hT (by decide) (⟨rfl, (by decide)⟩) (Nat.le_of_ble_eq_true rfl) (Nat.le_of_ble_eq_true rfl) dX13_isFree_72
    · have w33297 := cv_eq (rfl : z33293.toInt = z33293.toInt) (by decide : (0 : Int32).toInt = 0) c33294
      refine lv_iconst (v := 1) hx hb dX13_isFree_67 (by decide) ?_
      refine lv_goto (tgt := 72) hx hb dX13_isFree_68 (by decide) ?_
      have k33298 : (1 : Int32).toInt = 1 := by decide
      exact t_zret hQ X hT (by decide) (⟨rfl, (by decide)⟩) (Nat.le_of_ble_eq_true rfl) (Nat.le_of_ble_eq_true rfl) dX13_isFree_72
set_option maxHeartbeats 4000000 in
set_option maxRecDepth 100000 in
theorem km114_X13_isShut (l : Launch) (G : KG) (tag : Nat → Nat) (L : List Nat) (F : Nat → va_E) (ho : okT G ttC tag L F) (p0 : Nat) (p1 : Nat) (p2 : Int32) (x0 : Nat) (m0 : p0 ∈ L) (g0 : tag p0 = 46) (m1 : p1 ∈ L) (g1 : tag p1 = 37) (h2 : 0 ≤ p2.toInt ∧ p2.toInt ≤ 3) (mx0 : x0 ∈ L) (gx0 : tag x0 = 45) (pf0 : fld F p0 3 = .ref x0) : TMi l yX13_isShut cX13_isShut 4 (some .boolean) { frames := 4, cells := 0, slots := 0, locals := 98 } G ttC tag L F [.ref p0, .ref p1, .int p2] (fun r F1 => F1 = F ∧ (0 ≤ r.toInt ∧ r.toInt ≤ 1)) := by
  refine t_bodyi (y := yX13_isShut) (cd := cX13_isShut) (mL := 4) (rt := (some .boolean)) (rm := { frames := 4, cells := 0, slots := 0, locals := 98 }) (av := [.ref p0, .ref p1, .int p2]) (by decide) (Nat.le_of_ble_eq_true rfl) ho ?_
  intro p e s m args below meth c ls A Q hQ X hT hl
  have hx := X.1.1
  have hb := X.1.2.1
  have hl : lv_has ls 4 [(0, .ref p0), (1, .ref p1), (2, .int p2)] := hl
  refine lv_aload_n hx hb dX13_isShut_0 rfl (lv_at hl 1 rfl) ?_
  refine lv_iconst (v := 0) hx hb dX13_isShut_1 (by decide) ?_
  refine lv_iload_n hx hb dX13_isShut_2 rfl (lv_at hl 2 rfl) ?_
  refine lv_iadd hx hb dX13_isShut_3 ?_
  refine lv_topi (fun z33463 ez33463 => ?_)
  obtain rfl : p2 = z33463 := (ar_zadd ez33463).symm
  refine t_ild X hT m1 g1 rfl (by omega) dX13_isShut_4 (fun z33464 vz33464 rz33464 => ?_)
  have rz33464 := row_ml (by omega) rz33464
  refine lv_istore_n (lv' := [(3, .int z33464), (0, .ref p0), (1, .ref p1), (2, .int p2)]) hx hb dX13_isShut_5 rfl hl (by decide) rfl (fun ls hl => ?_)
  refine lv_iload_n hx hb dX13_isShut_6 rfl (lv_at hl 0 rfl) ?_
  refine lv_if_le (tgt := 43) hx hb dX13_isShut_7 (by decide) (fun c33465 => ?_) (fun c33465 => ?_)
  · have w33466 := cv_le (rfl : z33464.toInt = z33464.toInt) (by decide : (0 : Int32).toInt = 0) c33465
    refine lv_iconst (v := 0) hx hb dX13_isShut_43 (by decide) ?_
    have k33467 : (0 : Int32).toInt = 0 := by decide
    exact t_zret hQ X hT (by decide) (⟨rfl, (by decide)⟩) (Nat.le_of_ble_eq_true rfl) (Nat.le_of_ble_eq_true rfl) dX13_isShut_44
  · have w33468 := cv_nle (rfl : z33464.toInt = z33464.toInt) (by decide : (0 : Int32).toInt = 0) c33465
    refine lv_aload_n hx hb dX13_isShut_10 rfl (lv_at hl 1 rfl) ?_
    refine t_get (C := RX13) (T := TX13) (N := 37) X hT m0 g0 rfl rfl 3 (by decide) qw_481 inlX13 rfl dX13_isShut_11 (fun v33469 hv33469 ov33469 => ?_)
    obtain rfl : v33469 = .ref x0 := hv33469.symm.trans pf0
    refine lv_aload_n hx hb dX13_isShut_14 rfl (lv_at hl 2 rfl) ?_
    refine lv_iload_n hx hb dX13_isShut_15 rfl (lv_at hl 3 rfl) ?_
    refine lv_iload_n hx hb dX13_isShut_16 rfl (lv_at hl 0 rfl) ?_
    refine lv_aload_n hx hb dX13_isShut_17 rfl (lv_at hl 2 rfl) ?_
    refine lv_iload_n hx hb dX13_isShut_18 rfl (lv_at hl 3 rfl) ?_
    refine lv_iload_n hx hb dX13_isShut_19 rfl (lv_at hl 0 rfl) ?_
    refine lv_iconst (v := 1) hx hb dX13_isShut_20 (by decide) ?_
    refine t_cSi (n := 3) (As := [.int p2, .int z33464, .int 1]) (rest := [.ref p1, .int z33464, .int p2, .ref p1, .ref x0]) X hT (km49_X13_part l G tag L F hT.2.2.2 p2 z33464 1 (by omega) (by omega) (by decide)) qw_661 qw_662 qw_5 qw_663 ⟨by decide +kernel, by decide +kernel, by decide +kernel⟩ ⟨Nat.le_of_ble_eq_true rfl, Nat.le_of_ble_eq_true rfl⟩ hl rfl rfl (Nat.le_of_ble_eq_true rfl) dX13_isShut_21 ⟨Nat.le_of_ble_eq_true rfl, Nat.le_of_ble_eq_true rfl⟩ (fun z33470 F9 H locs hT hz33470 => ?_)
    obtain ⟨fz33470, hz33470, xz33470_0⟩ := hz33470
    rw [fz33470] at hT
    have k33471 : (1 : Int32).toInt = 1 := by decide
    refine t_ild X hT m1 g1 rfl (by omega) dX13_isShut_24 (fun z33472 vz33472 rz33472 => ?_)
    have oz33472 := rz33472
    have rz33472 := rg_all z33472
    refine lv_aload_n hx hb dX13_isShut_25 rfl (lv_at hl 2 rfl) ?_
    refine lv_iload_n hx hb dX13_isShut_26 rfl (lv_at hl 3 rfl) ?_
    refine lv_iload_n hx hb dX13_isShut_27 rfl (lv_at hl 0 rfl) ?_
    refine lv_iconst (v := 2) hx hb dX13_isShut_28 (by decide) ?_
    refine t_cSi (n := 3) (As := [.int p2, .int z33464, .int 2]) (rest := [.ref p1, .int z33472, .int z33464, .int p2, .ref p1, .ref x0]) X hT (km49_X13_part l G tag L F hT.2.2.2 p2 z33464 2 (by omega) (by omega) (by decide)) qw_661 qw_662 qw_5 qw_663 ⟨by decide +kernel, by decide +kernel, by decide +kernel⟩ ⟨Nat.le_of_ble_eq_true rfl, Nat.le_of_ble_eq_true rfl⟩ hl rfl rfl (Nat.le_of_ble_eq_true rfl) dX13_isShut_29 ⟨Nat.le_of_ble_eq_true rfl, Nat.le_of_ble_eq_true rfl⟩ (fun z33473 F9 H locs hT hz33473 => ?_)
    obtain ⟨fz33473, hz33473, xz33473_0⟩ := hz33473
    rw [fz33473] at hT
    have k33474 : (2 : Int32).toInt = 2 := by decide
    refine t_ild X hT m1 g1 rfl (by omega) dX13_isShut_32 (fun z33475 vz33475 rz33475 => ?_)
    have oz33475 := rz33475
    have rz33475 := rg_all z33475
    refine t_cSi (n := 6) (As := [.ref x0, .ref p1, .int p2, .int z33464, .int z33472, .int z33475]) (rest := []) X hT (km113_X13_isFree l G tag L F hT.2.2.2 x0 p1 p2 z33464 z33472 z33475 mx0 gx0 m1 g1 (by omega)) qw_804 qw_805 qw_5 qw_806 ⟨by decide +kernel, by decide +kernel, by decide +kernel⟩ ⟨Nat.le_of_ble_eq_true rfl, Nat.le_of_ble_eq_true rfl⟩ hl rfl rfl (Nat.le_of_ble_eq_true rfl) dX13_isShut_33 ⟨Nat.le_of_ble_eq_true rfl, Nat.le_of_ble_eq_true rfl⟩ (fun z33476 F9 H locs hT hz33476 => ?_)
    obtain ⟨fz33476, hz33476⟩ := hz33476
    rw [fz33476] at hT
    refine lv_if_ne (tgt := 43) hx hb dX13_isShut_36 (by decide) (fun c33477 => ?_) (fun c33477 => ?_)
    · have w33478 := cv_ne (rfl : z33476.toInt = z33476.toInt) (by decide : (0 : Int32).toInt = 0) c33477
      refine lv_iconst (v := 0) hx hb dX13_isShut_43 (by decide) ?_
      have k33479 : (0 : Int32).toInt = 0 := by decide
      exact t_zret hQ X hT (by decide) (⟨rfl, (by decide)⟩) (Nat.le_of_ble_eq_true rfl) (Nat.le_of_ble_eq_true rfl) dX13_isShut_44
    · have w33480 := cv_eq (rfl : z33476.toInt = z33476.toInt) (by decide : (0 : Int32).toInt = 0) c33477
      refine lv_iconst (v := 1) hx hb dX13_isShut_39 (by decide) ?_
      refine lv_goto (tgt := 44) hx hb dX13_isShut_40 (by decide) ?_
      have k33481 : (1 : Int32).toInt = 1 := by decide
      exact t_zret hQ X hT (by decide) (⟨rfl, (by decide)⟩) (Nat.le_of_ble_eq_true rfl) (Nat.le_of_ble_eq_true rfl) dX13_isShut_44
set_option maxHeartbeats 4000000 in
set_option maxRecDepth 100000 in
theorem km115_X13_house (l : Launch) (G : KG) (tag : Nat → Nat) (L : List Nat) (Fo : Nat → va_E) (ho : okT G ttC tag L Fo) (p0 : Nat) (p1 : Int32) (p2 : Int32) (x0 : Nat) (m0 : p0 ∈ L) (g0 : tag p0 = 46) (mx0 : x0 ∈ L) (gx0 : tag x0 = 45) (pf0 : fld Fo p0 3 = .ref x0) : TMi l yX13_house cX13_house 3 (some .int) { frames := 5, cells := 0, slots := 0, locals := 121 } G ttC tag L Fo [.ref p0, .int p1, .int p2] (fun r F1 => ((-2147483648) ≤ r.toInt ∧ r.toInt ≤ 2147483647) ∧ ((∀ b j : Nat, (tag b ≠ 46 ∨ j ≠ 0) → (tag b ≠ 46 ∨ j ≠ 1) → (tag b ≠ 46 ∨ j ≠ 2) → fld F1 b j = fld Fo b j) ∧ (∀ b j : Nat, elm F1 b j = elm Fo b j))) := by
  refine t_bodyi (y := yX13_house) (cd := cX13_house) (mL := 3) (rt := (some .int)) (rm := { frames := 5, cells := 0, slots := 0, locals := 121 }) (av := [.ref p0, .int p1, .int p2]) (by decide) (Nat.le_of_ble_eq_true rfl) ho ?_
  intro p e s m args below meth c ls A Q hQ X hT hl
  have hx := X.1.1
  have hb := X.1.2.1
  have hl : lv_has ls 3 [(0, .ref p0), (1, .int p1), (2, .int p2)] := hl
  have rp1 := rg_all p1
  have rp2 := rg_all p2
  obtain ⟨F, hFo⟩ : ∃ F : Nat → va_E, F = Fo := ⟨_, rfl⟩
  rw [← hFo] at hT pf0
  have hfr : (∀ b j : Nat, (tag b ≠ 46 ∨ j ≠ 0) → (tag b ≠ 46 ∨ j ≠ 1) → (tag b ≠ 46 ∨ j ≠ 2) → fld F b j = fld Fo b j) ∧ (∀ b j : Nat, elm F b j = elm Fo b j) := by
    rw [hFo]
    exact ⟨by intros; rfl, by intros; rfl⟩
  refine lv_aload_n hx hb dX13_house_0 rfl (lv_at hl 0 rfl) ?_
  refine lv_iconst (v := 0) hx hb dX13_house_1 (by decide) ?_
  refine t_put (C := RX13) (T := TX13) (N := 37) (v := .int 0) X hT m0 g0 rfl tyX13 tyX13_ok nmX13 rfl 0 (by decide) qw_140 inlX13 rfl (by first | rfl | decide) (by first | rfl | decide) rfl (⟨_, rfl, (show (-2147483648) ≤ (0 : Int32).toInt from (by decide)), (show (0 : Int32).toInt ≤ 2147483647 from (by decide))⟩) dX13_house_2 (fun F H locs hT v34415 h1v34415 h2v34415 => ?_)
  have pf0 := (h1v34415 _ _ (Or.inr (by decide))).trans pf0
  have hfr : (∀ b j : Nat, (tag b ≠ 46 ∨ j ≠ 0) → (tag b ≠ 46 ∨ j ≠ 1) → (tag b ≠ 46 ∨ j ≠ 2) → fld F b j = fld Fo b j) ∧ (∀ b j : Nat, elm F b j = elm Fo b j) := ⟨fun b j n46_0 n46_1 n46_2 => (h1v34415 b j (fr_ne g0 n46_0)).trans (hfr.1 b j n46_0 n46_1 n46_2), fun b j  => (h2v34415 b j).trans (hfr.2 b j )⟩
  refine lv_aload_n hx hb dX13_house_5 rfl (lv_at hl 0 rfl) ?_
  refine lv_iload_n hx hb dX13_house_6 rfl (lv_at hl 1 rfl) ?_
  refine t_cVi (n := 1) (C := RX13) (T := TX13) (N := 37) (As := [.int p1]) (rest := []) X hT (km107_X13_isHouse l G tag L F hT.2.2.2 p0 p1 x0 m0 g0 mx0 gx0 pf0) m0 g0 rfl rfl qw_796 qw_797 qw_798 qw_5 qw_799 ⟨rfl, by decide +kernel, by decide +kernel, by decide +kernel⟩ ⟨Nat.le_of_ble_eq_true rfl, Nat.le_of_ble_eq_true rfl⟩ hl rfl rfl (Nat.le_of_ble_eq_true rfl) dX13_house_7 ⟨Nat.le_of_ble_eq_true rfl, Nat.le_of_ble_eq_true rfl⟩ (fun z34416 F9 H locs hT hz34416 => ?_)
  obtain ⟨fz34416, hz34416⟩ := hz34416
  rw [fz34416] at hT
  obtain ⟨hz34416, iz34416⟩ := hz34416
  refine lv_if_eq (tgt := 23) hx hb dX13_house_10 (by decide) (fun c34417 => ?_) (fun c34417 => ?_)
  · have w34418 := cv_eq (rfl : z34416.toInt = z34416.toInt) (by decide : (0 : Int32).toInt = 0) c34417
    refine lv_aload_n hx hb dX13_house_23 rfl (lv_at hl 0 rfl) ?_
    refine lv_iconst (v := 1) hx hb dX13_house_24 (by decide) ?_
    refine t_cVi (n := 1) (C := RX13) (T := TX13) (N := 37) (As := [.int 1]) (rest := []) X hT (km88_X13_refused l G tag L F hT.2.2.2 p0 1 m0 g0) m0 g0 rfl rfl qw_484 qw_485 qw_486 qw_5 qw_487 ⟨rfl, by decide +kernel, by decide +kernel, by decide +kernel⟩ ⟨Nat.le_of_ble_eq_true rfl, Nat.le_of_ble_eq_true rfl⟩ hl rfl rfl (Nat.le_of_ble_eq_true rfl) dX13_house_25 ⟨Nat.le_of_ble_eq_true rfl, Nat.le_of_ble_eq_true rfl⟩ (fun z34419 F H locs hT hz34419 => ?_)
    obtain ⟨hz34419, yz34419⟩ := hz34419
    have pf0 := (yz34419.1 _ 3 (Or.inr (by decide)) (Or.inr (by decide))).trans pf0
    have v34415 := (yz34419.1 _ 0 (Or.inr (by decide)) (Or.inr (by decide))).trans v34415
    have hfr : (∀ b j : Nat, (tag b ≠ 46 ∨ j ≠ 0) → (tag b ≠ 46 ∨ j ≠ 1) → (tag b ≠ 46 ∨ j ≠ 2) → fld F b j = fld Fo b j) ∧ (∀ b j : Nat, elm F b j = elm Fo b j) := ⟨fun b j n46_0 n46_1 n46_2 => (yz34419.1 b j n46_1 n46_2).trans (hfr.1 b j n46_0 n46_1 n46_2), fun b j  => (yz34419.2 b j ).trans (hfr.2 b j )⟩
    exact t_iret hQ X hT (⟨rg_all _, hfr⟩) (Nat.le_of_ble_eq_true rfl) (Nat.le_of_ble_eq_true rfl) dX13_house_28
  · have w34420 := cv_ne (rfl : z34416.toInt = z34416.toInt) (by decide : (0 : Int32).toInt = 0) c34417
    have w34421 := (fun h => (iz34416 h)) (by omega)
    refine lv_iload_n hx hb dX13_house_13 rfl (lv_at hl 2 rfl) ?_
    refine lv_iconst (v := 0) hx hb dX13_house_14 (by decide) ?_
    refine lv_bipush (v := 6) hx hb dX13_house_15 (by decide) ?_
    refine t_cSi (n := 3) (As := [.int p2, .int 0, .int 6]) (rest := []) X hT (km19_X13_within l G tag L F hT.2.2.2 p2 0 6 ) qw_568 qw_569 qw_5 qw_570 ⟨by decide +kernel, by decide +kernel, by decide +kernel⟩ ⟨Nat.le_of_ble_eq_true rfl, Nat.le_of_ble_eq_true rfl⟩ hl rfl rfl (Nat.le_of_ble_eq_true rfl) dX13_house_17 ⟨Nat.le_of_ble_eq_true rfl, Nat.le_of_ble_eq_true rfl⟩ (fun z34422 F9 H locs hT hz34422 => ?_)
    obtain ⟨fz34422, hz34422, xz34422_0⟩ := hz34422
    rw [fz34422] at hT
    have k34423 : (0 : Int32).toInt = 0 := by decide
    have k34424 : (6 : Int32).toInt = 6 := by decide
    refine lv_if_ne (tgt := 29) hx hb dX13_house_20 (by decide) (fun c34425 => ?_) (fun c34425 => ?_)
    · have w34426 := cv_ne (rfl : z34422.toInt = z34422.toInt) (by decide : (0 : Int32).toInt = 0) c34425
      have w34427 := xz34422_0 (by omega)
      refine lv_iload_n hx hb dX13_house_29 rfl (lv_at hl 2 rfl) ?_
      by_cases c34428 : p2 = 0
      · have w34429 := cv_eq (rfl : p2.toInt = p2.toInt) (by decide : (0 : Int32).toInt = 0) c34428
        refine lv_tableIn (off := 38) (tgt := 68) hx hb dX13_house_30 (by rw [c34428]; decide) (by rw [c34428]; decide) (by rw [c34428]; decide) (by decide) ?_
        refine lv_aload_n hx hb dX13_house_68 rfl (lv_at hl 0 rfl) ?_
        refine lv_aload_n hx hb dX13_house_69 rfl (lv_at hl 0 rfl) ?_
        refine t_get (C := RX13) (T := TX13) (N := 37) X hT m0 g0 rfl rfl 3 (by decide) qw_481 inlX13 rfl dX13_house_70 (fun v34430 hv34430 ov34430 => ?_)
        obtain rfl : v34430 = .ref x0 := hv34430.symm.trans pf0
        refine t_getN (C := RX12) (T := TX12) (N := 31) X hT mx0 gx0 rfl rfl 21 (by decide) (List.mem_of_getElem? (i := 25) rfl) inlX12 rfl dX13_house_73 (fun v34431 hv34431 ov34431 => ?_)
        obtain ⟨b34432, rfl, mb34432, gb34432⟩ := okV_r ov34431
        have gb34432 : tag b34432 = 30 := tg_of gb34432
        refine lv_iload_n hx hb dX13_house_76 rfl (lv_at hl 1 rfl) ?_
        refine t_ild X hT mb34432 gb34432 rfl (by omega) dX13_house_77 (fun z34433 vz34433 rz34433 => ?_)
        have rz34433 : 0 ≤ z34433.toInt ∧ z34433.toInt ≤ 143 := rz34433
        refine t_cVi (n := 1) (C := RX13) (T := TX13) (N := 37) (As := [.int z34433]) (rest := []) X hT (km93_X13_good l G tag L F hT.2.2.2 p0 z34433 m0 g0) m0 g0 rfl rfl qw_687 qw_688 qw_689 qw_5 qw_690 ⟨rfl, by decide +kernel, by decide +kernel, by decide +kernel⟩ ⟨Nat.le_of_ble_eq_true rfl, Nat.le_of_ble_eq_true rfl⟩ hl rfl rfl (Nat.le_of_ble_eq_true rfl) dX13_house_78 ⟨Nat.le_of_ble_eq_true rfl, Nat.le_of_ble_eq_true rfl⟩ (fun z34434 F H locs hT hz34434 => ?_)
        obtain ⟨hz34434, yz34434⟩ := hz34434
        have pf0 := (yz34434.1 _ 3 (Or.inr (by decide)) (Or.inr (by decide))).trans pf0
        have v34415 := (yz34434.1 _ 0 (Or.inr (by decide)) (Or.inr (by decide))).trans v34415
        have hv34431 := (yz34434.1 _ 21 (Or.inr (by decide)) (Or.inr (by decide))).trans hv34431
        have vz34433 := (yz34434.2 _ _ ).trans vz34433
        have hfr : (∀ b j : Nat, (tag b ≠ 46 ∨ j ≠ 0) → (tag b ≠ 46 ∨ j ≠ 1) → (tag b ≠ 46 ∨ j ≠ 2) → fld F b j = fld Fo b j) ∧ (∀ b j : Nat, elm F b j = elm Fo b j) := ⟨fun b j n46_0 n46_1 n46_2 => (yz34434.1 b j n46_1 n46_2).trans (hfr.1 b j n46_0 n46_1 n46_2), fun b j  => (yz34434.2 b j ).trans (hfr.2 b j )⟩
        exact t_iret hQ X hT (⟨rg_all _, hfr⟩) (Nat.le_of_ble_eq_true rfl) (Nat.le_of_ble_eq_true rfl) dX13_house_81
      have w34435 := cv_ne (rfl : p2.toInt = p2.toInt) (by decide : (0 : Int32).toInt = 0) c34428
      by_cases c34436 : p2 = 1
      · have w34437 := cv_eq (rfl : p2.toInt = p2.toInt) (by decide : (1 : Int32).toInt = 1) c34436
        refine lv_tableIn (off := 52) (tgt := 82) hx hb dX13_house_30 (by rw [c34436]; decide) (by rw [c34436]; decide) (by rw [c34436]; decide) (by decide) ?_
        refine lv_aload_n hx hb dX13_house_82 rfl (lv_at hl 0 rfl) ?_
        refine lv_aload_n hx hb dX13_house_83 rfl (lv_at hl 0 rfl) ?_
        refine t_get (C := RX13) (T := TX13) (N := 37) X hT m0 g0 rfl rfl 16 (by decide) qw_112 inlX13 rfl dX13_house_84 (fun v34438 hv34438 ov34438 => ?_)
        obtain ⟨b34439, rfl, mb34439, gb34439⟩ := okV_r ov34438
        have gb34439 : tag b34439 = 37 := tg_of gb34439
        refine lv_iconst (v := 0) hx hb dX13_house_87 (by decide) ?_
        refine lv_iload_n hx hb dX13_house_88 rfl (lv_at hl 1 rfl) ?_
        refine lv_iadd hx hb dX13_house_89 ?_
        refine lv_topi (fun z34440 ez34440 => ?_)
        obtain rfl : p1 = z34440 := (ar_zadd ez34440).symm
        refine t_ild X hT mb34439 gb34439 rfl (by omega) dX13_house_90 (fun z34441 vz34441 rz34441 => ?_)
        have rz34441 := row_ml (by omega) rz34441
        refine t_cVi (n := 1) (C := RX13) (T := TX13) (N := 37) (As := [.int z34441]) (rest := []) X hT (km93_X13_good l G tag L F hT.2.2.2 p0 z34441 m0 g0) m0 g0 rfl rfl qw_687 qw_688 qw_689 qw_5 qw_690 ⟨rfl, by decide +kernel, by decide +kernel, by decide +kernel⟩ ⟨Nat.le_of_ble_eq_true rfl, Nat.le_of_ble_eq_true rfl⟩ hl rfl rfl (Nat.le_of_ble_eq_true rfl) dX13_house_91 ⟨Nat.le_of_ble_eq_true rfl, Nat.le_of_ble_eq_true rfl⟩ (fun z34442 F H locs hT hz34442 => ?_)
        obtain ⟨hz34442, yz34442⟩ := hz34442
        have pf0 := (yz34442.1 _ 3 (Or.inr (by decide)) (Or.inr (by decide))).trans pf0
        have v34415 := (yz34442.1 _ 0 (Or.inr (by decide)) (Or.inr (by decide))).trans v34415
        have hv34438 := (yz34442.1 _ 16 (Or.inr (by decide)) (Or.inr (by decide))).trans hv34438
        have vz34441 := (yz34442.2 _ _ ).trans vz34441
        have hfr : (∀ b j : Nat, (tag b ≠ 46 ∨ j ≠ 0) → (tag b ≠ 46 ∨ j ≠ 1) → (tag b ≠ 46 ∨ j ≠ 2) → fld F b j = fld Fo b j) ∧ (∀ b j : Nat, elm F b j = elm Fo b j) := ⟨fun b j n46_0 n46_1 n46_2 => (yz34442.1 b j n46_1 n46_2).trans (hfr.1 b j n46_0 n46_1 n46_2), fun b j  => (yz34442.2 b j ).trans (hfr.2 b j )⟩
        exact t_iret hQ X hT (⟨rg_all _, hfr⟩) (Nat.le_of_ble_eq_true rfl) (Nat.le_of_ble_eq_true rfl) dX13_house_94
      have w34443 := cv_ne (rfl : p2.toInt = p2.toInt) (by decide : (1 : Int32).toInt = 1) c34436
      by_cases c34444 : p2 = 2
      · have w34445 := cv_eq (rfl : p2.toInt = p2.toInt) (by decide : (2 : Int32).toInt = 2) c34444
        refine lv_tableIn (off := 65) (tgt := 95) hx hb dX13_house_30 (by rw [c34444]; decide) (by rw [c34444]; decide) (by rw [c34444]; decide) (by decide) ?_
        refine lv_aload_n hx hb dX13_house_95 rfl (lv_at hl 0 rfl) ?_
        refine lv_aload_n hx hb dX13_house_96 rfl (lv_at hl 0 rfl) ?_
        refine t_get (C := RX13) (T := TX13) (N := 37) X hT m0 g0 rfl rfl 16 (by decide) qw_112 inlX13 rfl dX13_house_97 (fun v34446 hv34446 ov34446 => ?_)
        obtain ⟨b34447, rfl, mb34447, gb34447⟩ := okV_r ov34446
        have gb34447 : tag b34447 = 37 := tg_of gb34447
        refine lv_iconst (v := 4) hx hb dX13_house_100 (by decide) ?_
        refine lv_iload_n hx hb dX13_house_101 rfl (lv_at hl 1 rfl) ?_
        refine lv_iadd hx hb dX13_house_102 ?_
        refine lv_topi (fun z34448 ez34448 => ?_)
        have hz34448 : z34448.toInt = 4 + p1.toInt := ar_add ez34448 (by decide : (4 : Int32).toInt = 4) (rfl : p1.toInt = p1.toInt) (by omega) (by omega)
        have rz34448 : 4 ≤ z34448.toInt ∧ z34448.toInt ≤ 7 := by omega
        refine t_ild X hT mb34447 gb34447 rfl (by omega) dX13_house_103 (fun z34449 vz34449 rz34449 => ?_)
        have oz34449 := rz34449
        have rz34449 := rg_all z34449
        refine t_cVi (n := 1) (C := RX13) (T := TX13) (N := 37) (As := [.int z34449]) (rest := []) X hT (km93_X13_good l G tag L F hT.2.2.2 p0 z34449 m0 g0) m0 g0 rfl rfl qw_687 qw_688 qw_689 qw_5 qw_690 ⟨rfl, by decide +kernel, by decide +kernel, by decide +kernel⟩ ⟨Nat.le_of_ble_eq_true rfl, Nat.le_of_ble_eq_true rfl⟩ hl rfl rfl (Nat.le_of_ble_eq_true rfl) dX13_house_104 ⟨Nat.le_of_ble_eq_true rfl, Nat.le_of_ble_eq_true rfl⟩ (fun z34450 F H locs hT hz34450 => ?_)
        obtain ⟨hz34450, yz34450⟩ := hz34450
        have pf0 := (yz34450.1 _ 3 (Or.inr (by decide)) (Or.inr (by decide))).trans pf0
        have v34415 := (yz34450.1 _ 0 (Or.inr (by decide)) (Or.inr (by decide))).trans v34415
        have hv34446 := (yz34450.1 _ 16 (Or.inr (by decide)) (Or.inr (by decide))).trans hv34446
        have vz34449 := (yz34450.2 _ _ ).trans vz34449
        have hfr : (∀ b j : Nat, (tag b ≠ 46 ∨ j ≠ 0) → (tag b ≠ 46 ∨ j ≠ 1) → (tag b ≠ 46 ∨ j ≠ 2) → fld F b j = fld Fo b j) ∧ (∀ b j : Nat, elm F b j = elm Fo b j) := ⟨fun b j n46_0 n46_1 n46_2 => (yz34450.1 b j n46_1 n46_2).trans (hfr.1 b j n46_0 n46_1 n46_2), fun b j  => (yz34450.2 b j ).trans (hfr.2 b j )⟩
        exact t_iret hQ X hT (⟨rg_all _, hfr⟩) (Nat.le_of_ble_eq_true rfl) (Nat.le_of_ble_eq_true rfl) dX13_house_107
      have w34451 := cv_ne (rfl : p2.toInt = p2.toInt) (by decide : (2 : Int32).toInt = 2) c34444
      by_cases c34452 : p2 = 3
      · have w34453 := cv_eq (rfl : p2.toInt = p2.toInt) (by decide : (3 : Int32).toInt = 3) c34452
        refine lv_tableIn (off := 78) (tgt := 108) hx hb dX13_house_30 (by rw [c34452]; decide) (by rw [c34452]; decide) (by rw [c34452]; decide) (by decide) ?_
        refine lv_aload_n hx hb dX13_house_108 rfl (lv_at hl 0 rfl) ?_
        refine lv_aload_n hx hb dX13_house_109 rfl (lv_at hl 0 rfl) ?_
        refine t_get (C := RX13) (T := TX13) (N := 37) X hT m0 g0 rfl rfl 16 (by decide) qw_112 inlX13 rfl dX13_house_110 (fun v34454 hv34454 ov34454 => ?_)
        obtain ⟨b34455, rfl, mb34455, gb34455⟩ := okV_r ov34454
        have gb34455 : tag b34455 = 37 := tg_of gb34455
        refine lv_bipush (v := 8) hx hb dX13_house_113 (by decide) ?_
        refine lv_iload_n hx hb dX13_house_115 rfl (lv_at hl 1 rfl) ?_
        refine lv_iadd hx hb dX13_house_116 ?_
        refine lv_topi (fun z34456 ez34456 => ?_)
        have hz34456 : z34456.toInt = 8 + p1.toInt := ar_add ez34456 (by decide : (8 : Int32).toInt = 8) (rfl : p1.toInt = p1.toInt) (by omega) (by omega)
        have rz34456 : 8 ≤ z34456.toInt ∧ z34456.toInt ≤ 11 := by omega
        refine t_ild X hT mb34455 gb34455 rfl (by omega) dX13_house_117 (fun z34457 vz34457 rz34457 => ?_)
        have oz34457 := rz34457
        have rz34457 := rg_all z34457
        refine t_cVi (n := 1) (C := RX13) (T := TX13) (N := 37) (As := [.int z34457]) (rest := []) X hT (km93_X13_good l G tag L F hT.2.2.2 p0 z34457 m0 g0) m0 g0 rfl rfl qw_687 qw_688 qw_689 qw_5 qw_690 ⟨rfl, by decide +kernel, by decide +kernel, by decide +kernel⟩ ⟨Nat.le_of_ble_eq_true rfl, Nat.le_of_ble_eq_true rfl⟩ hl rfl rfl (Nat.le_of_ble_eq_true rfl) dX13_house_118 ⟨Nat.le_of_ble_eq_true rfl, Nat.le_of_ble_eq_true rfl⟩ (fun z34458 F H locs hT hz34458 => ?_)
        obtain ⟨hz34458, yz34458⟩ := hz34458
        have pf0 := (yz34458.1 _ 3 (Or.inr (by decide)) (Or.inr (by decide))).trans pf0
        have v34415 := (yz34458.1 _ 0 (Or.inr (by decide)) (Or.inr (by decide))).trans v34415
        have hv34454 := (yz34458.1 _ 16 (Or.inr (by decide)) (Or.inr (by decide))).trans hv34454
        have vz34457 := (yz34458.2 _ _ ).trans vz34457
        have hfr : (∀ b j : Nat, (tag b ≠ 46 ∨ j ≠ 0) → (tag b ≠ 46 ∨ j ≠ 1) → (tag b ≠ 46 ∨ j ≠ 2) → fld F b j = fld Fo b j) ∧ (∀ b j : Nat, elm F b j = elm Fo b j) := ⟨fun b j n46_0 n46_1 n46_2 => (yz34458.1 b j n46_1 n46_2).trans (hfr.1 b j n46_0 n46_1 n46_2), fun b j  => (yz34458.2 b j ).trans (hfr.2 b j )⟩
        exact t_iret hQ X hT (⟨rg_all _, hfr⟩) (Nat.le_of_ble_eq_true rfl) (Nat.le_of_ble_eq_true rfl) dX13_house_121
      have w34459 := cv_ne (rfl : p2.toInt = p2.toInt) (by decide : (3 : Int32).toInt = 3) c34452
      by_cases c34460 : p2 = 4
      · have w34461 := cv_eq (rfl : p2.toInt = p2.toInt) (by decide : (4 : Int32).toInt = 4) c34460
        refine lv_tableIn (off := 92) (tgt := 122) hx hb dX13_house_30 (by rw [c34460]; decide) (by rw [c34460]; decide) (by rw [c34460]; decide) (by decide) ?_
        refine lv_aload_n hx hb dX13_house_122 rfl (lv_at hl 0 rfl) ?_
        refine lv_aload_n hx hb dX13_house_123 rfl (lv_at hl 0 rfl) ?_
        refine t_get (C := RX13) (T := TX13) (N := 37) X hT m0 g0 rfl rfl 3 (by decide) qw_481 inlX13 rfl dX13_house_124 (fun v34462 hv34462 ov34462 => ?_)
        obtain rfl : v34462 = .ref x0 := hv34462.symm.trans pf0
        refine t_getN (C := RX12) (T := TX12) (N := 31) X hT mx0 gx0 rfl rfl 22 (by decide) (List.mem_of_getElem? (i := 26) rfl) inlX12 rfl dX13_house_127 (fun v34463 hv34463 ov34463 => ?_)
        obtain ⟨b34464, rfl, mb34464, gb34464⟩ := okV_r ov34463
        have gb34464 : tag b34464 = 31 := tg_of gb34464
        refine lv_iload_n hx hb dX13_house_130 rfl (lv_at hl 1 rfl) ?_
        refine t_ild X hT mb34464 gb34464 rfl (by omega) dX13_house_131 (fun z34465 vz34465 rz34465 => ?_)
        have rz34465 : 0 ≤ z34465.toInt ∧ z34465.toInt ≤ 3 := rz34465
        refine t_cVi (n := 1) (C := RX13) (T := TX13) (N := 37) (As := [.int z34465]) (rest := []) X hT (km93_X13_good l G tag L F hT.2.2.2 p0 z34465 m0 g0) m0 g0 rfl rfl qw_687 qw_688 qw_689 qw_5 qw_690 ⟨rfl, by decide +kernel, by decide +kernel, by decide +kernel⟩ ⟨Nat.le_of_ble_eq_true rfl, Nat.le_of_ble_eq_true rfl⟩ hl rfl rfl (Nat.le_of_ble_eq_true rfl) dX13_house_132 ⟨Nat.le_of_ble_eq_true rfl, Nat.le_of_ble_eq_true rfl⟩ (fun z34466 F H locs hT hz34466 => ?_)
        obtain ⟨hz34466, yz34466⟩ := hz34466
        have pf0 := (yz34466.1 _ 3 (Or.inr (by decide)) (Or.inr (by decide))).trans pf0
        have v34415 := (yz34466.1 _ 0 (Or.inr (by decide)) (Or.inr (by decide))).trans v34415
        have hv34463 := (yz34466.1 _ 22 (Or.inr (by decide)) (Or.inr (by decide))).trans hv34463
        have vz34465 := (yz34466.2 _ _ ).trans vz34465
        have hfr : (∀ b j : Nat, (tag b ≠ 46 ∨ j ≠ 0) → (tag b ≠ 46 ∨ j ≠ 1) → (tag b ≠ 46 ∨ j ≠ 2) → fld F b j = fld Fo b j) ∧ (∀ b j : Nat, elm F b j = elm Fo b j) := ⟨fun b j n46_0 n46_1 n46_2 => (yz34466.1 b j n46_1 n46_2).trans (hfr.1 b j n46_0 n46_1 n46_2), fun b j  => (yz34466.2 b j ).trans (hfr.2 b j )⟩
        exact t_iret hQ X hT (⟨rg_all _, hfr⟩) (Nat.le_of_ble_eq_true rfl) (Nat.le_of_ble_eq_true rfl) dX13_house_135
      have w34467 := cv_ne (rfl : p2.toInt = p2.toInt) (by decide : (4 : Int32).toInt = 4) c34460
      by_cases c34468 : p2 = 5
      · have w34469 := cv_eq (rfl : p2.toInt = p2.toInt) (by decide : (5 : Int32).toInt = 5) c34468
        refine lv_tableIn (off := 106) (tgt := 136) hx hb dX13_house_30 (by rw [c34468]; decide) (by rw [c34468]; decide) (by rw [c34468]; decide) (by decide) ?_
        refine lv_aload_n hx hb dX13_house_136 rfl (lv_at hl 0 rfl) ?_
        refine lv_aload_n hx hb dX13_house_137 rfl (lv_at hl 0 rfl) ?_
        refine lv_aload_n hx hb dX13_house_138 rfl (lv_at hl 0 rfl) ?_
        refine t_get (C := RX13) (T := TX13) (N := 37) X hT m0 g0 rfl rfl 16 (by decide) qw_112 inlX13 rfl dX13_house_139 (fun v34470 hv34470 ov34470 => ?_)
        obtain ⟨b34471, rfl, mb34471, gb34471⟩ := okV_r ov34470
        have gb34471 : tag b34471 = 37 := tg_of gb34471
        refine lv_iload_n hx hb dX13_house_142 rfl (lv_at hl 1 rfl) ?_
        refine t_cVi (n := 2) (C := RX13) (T := TX13) (N := 37) (As := [.ref b34471, .int p1]) (rest := [.ref p0]) X hT (km114_X13_isShut l G tag L F hT.2.2.2 p0 b34471 p1 x0 m0 g0 mb34471 gb34471 (by omega) mx0 gx0 pf0) m0 g0 rfl rfl qw_800 qw_801 qw_802 qw_5 qw_803 ⟨rfl, by decide +kernel, by decide +kernel, by decide +kernel⟩ ⟨Nat.le_of_ble_eq_true rfl, Nat.le_of_ble_eq_true rfl⟩ hl rfl rfl (Nat.le_of_ble_eq_true rfl) dX13_house_143 ⟨Nat.le_of_ble_eq_true rfl, Nat.le_of_ble_eq_true rfl⟩ (fun z34472 F9 H locs hT hz34472 => ?_)
        obtain ⟨fz34472, hz34472⟩ := hz34472
        rw [fz34472] at hT
        refine lv_if_eq (tgt := 153) hx hb dX13_house_146 (by decide) (fun c34473 => ?_) (fun c34473 => ?_)
        · have w34474 := cv_eq (rfl : z34472.toInt = z34472.toInt) (by decide : (0 : Int32).toInt = 0) c34473
          refine lv_iconst (v := 0) hx hb dX13_house_153 (by decide) ?_
          refine t_cVi (n := 1) (C := RX13) (T := TX13) (N := 37) (As := [.int 0]) (rest := []) X hT (km93_X13_good l G tag L F hT.2.2.2 p0 0 m0 g0) m0 g0 rfl rfl qw_687 qw_688 qw_689 qw_5 qw_690 ⟨rfl, by decide +kernel, by decide +kernel, by decide +kernel⟩ ⟨Nat.le_of_ble_eq_true rfl, Nat.le_of_ble_eq_true rfl⟩ hl rfl rfl (Nat.le_of_ble_eq_true rfl) dX13_house_154 ⟨Nat.le_of_ble_eq_true rfl, Nat.le_of_ble_eq_true rfl⟩ (fun z34475 F H locs hT hz34475 => ?_)
          obtain ⟨hz34475, yz34475⟩ := hz34475
          have pf0 := (yz34475.1 _ 3 (Or.inr (by decide)) (Or.inr (by decide))).trans pf0
          have v34415 := (yz34475.1 _ 0 (Or.inr (by decide)) (Or.inr (by decide))).trans v34415
          have hv34470 := (yz34475.1 _ 16 (Or.inr (by decide)) (Or.inr (by decide))).trans hv34470
          have hfr : (∀ b j : Nat, (tag b ≠ 46 ∨ j ≠ 0) → (tag b ≠ 46 ∨ j ≠ 1) → (tag b ≠ 46 ∨ j ≠ 2) → fld F b j = fld Fo b j) ∧ (∀ b j : Nat, elm F b j = elm Fo b j) := ⟨fun b j n46_0 n46_1 n46_2 => (yz34475.1 b j n46_1 n46_2).trans (hfr.1 b j n46_0 n46_1 n46_2), fun b j  => (yz34475.2 b j ).trans (hfr.2 b j )⟩
          exact t_iret hQ X hT (⟨rg_all _, hfr⟩) (Nat.le_of_ble_eq_true rfl) (Nat.le_of_ble_eq_true rfl) dX13_house_157
        · have w34476 := cv_ne (rfl : z34472.toInt = z34472.toInt) (by decide : (0 : Int32).toInt = 0) c34473
          refine lv_iconst (v := 1) hx hb dX13_house_149 (by decide) ?_
          refine lv_goto (tgt := 154) hx hb dX13_house_150 (by decide) ?_
          refine t_cVi (n := 1) (C := RX13) (T := TX13) (N := 37) (As := [.int 1]) (rest := []) X hT (km93_X13_good l G tag L F hT.2.2.2 p0 1 m0 g0) m0 g0 rfl rfl qw_687 qw_688 qw_689 qw_5 qw_690 ⟨rfl, by decide +kernel, by decide +kernel, by decide +kernel⟩ ⟨Nat.le_of_ble_eq_true rfl, Nat.le_of_ble_eq_true rfl⟩ hl rfl rfl (Nat.le_of_ble_eq_true rfl) dX13_house_154 ⟨Nat.le_of_ble_eq_true rfl, Nat.le_of_ble_eq_true rfl⟩ (fun z34477 F H locs hT hz34477 => ?_)
          obtain ⟨hz34477, yz34477⟩ := hz34477
          have pf0 := (yz34477.1 _ 3 (Or.inr (by decide)) (Or.inr (by decide))).trans pf0
          have v34415 := (yz34477.1 _ 0 (Or.inr (by decide)) (Or.inr (by decide))).trans v34415
          have hv34470 := (yz34477.1 _ 16 (Or.inr (by decide)) (Or.inr (by decide))).trans hv34470
          have hfr : (∀ b j : Nat, (tag b ≠ 46 ∨ j ≠ 0) → (tag b ≠ 46 ∨ j ≠ 1) → (tag b ≠ 46 ∨ j ≠ 2) → fld F b j = fld Fo b j) ∧ (∀ b j : Nat, elm F b j = elm Fo b j) := ⟨fun b j n46_0 n46_1 n46_2 => (yz34477.1 b j n46_1 n46_2).trans (hfr.1 b j n46_0 n46_1 n46_2), fun b j  => (yz34477.2 b j ).trans (hfr.2 b j )⟩
          exact t_iret hQ X hT (⟨rg_all _, hfr⟩) (Nat.le_of_ble_eq_true rfl) (Nat.le_of_ble_eq_true rfl) dX13_house_157
      have w34478 := cv_ne (rfl : p2.toInt = p2.toInt) (by decide : (5 : Int32).toInt = 5) c34468
      refine lv_tableOut (tgt := 158) hx hb dX13_house_30 (by omega) (by decide) ?_
      refine lv_aload_n hx hb dX13_house_158 rfl (lv_at hl 0 rfl) ?_
      refine lv_aload_n hx hb dX13_house_159 rfl (lv_at hl 0 rfl) ?_
      refine t_get (C := RX13) (T := TX13) (N := 37) X hT m0 g0 rfl rfl 16 (by decide) qw_112 inlX13 rfl dX13_house_160 (fun v34479 hv34479 ov34479 => ?_)
      obtain ⟨b34480, rfl, mb34480, gb34480⟩ := okV_r ov34479
      have gb34480 : tag b34480 = 37 := tg_of gb34480
      refine lv_iconst (v := 4) hx hb dX13_house_163 (by decide) ?_
      refine lv_iload_n hx hb dX13_house_164 rfl (lv_at hl 1 rfl) ?_
      refine lv_iadd hx hb dX13_house_165 ?_
      refine lv_topi (fun z34481 ez34481 => ?_)
      have hz34481 : z34481.toInt = 4 + p1.toInt := ar_add ez34481 (by decide : (4 : Int32).toInt = 4) (rfl : p1.toInt = p1.toInt) (by omega) (by omega)
      have rz34481 : 4 ≤ z34481.toInt ∧ z34481.toInt ≤ 7 := by omega
      refine t_ild X hT mb34480 gb34480 rfl (by omega) dX13_house_166 (fun z34482 vz34482 rz34482 => ?_)
      have oz34482 := rz34482
      have rz34482 := rg_all z34482
      refine lv_aload_n hx hb dX13_house_167 rfl (lv_at hl 0 rfl) ?_
      refine t_get (C := RX13) (T := TX13) (N := 37) X hT m0 g0 rfl rfl 16 (by decide) qw_112 inlX13 rfl dX13_house_168 (fun v34483 hv34483 ov34483 => ?_)
      obtain rfl : v34483 = .ref b34480 := hv34483.symm.trans hv34479
      refine lv_iconst (v := 0) hx hb dX13_house_171 (by decide) ?_
      refine lv_iload_n hx hb dX13_house_172 rfl (lv_at hl 1 rfl) ?_
      refine lv_iadd hx hb dX13_house_173 ?_
      refine lv_topi (fun z34484 ez34484 => ?_)
      obtain rfl : p1 = z34484 := (ar_zadd ez34484).symm
      refine t_ild X hT mb34480 gb34480 rfl (by omega) dX13_house_174 (fun z34485 vz34485 rz34485 => ?_)
      have rz34485 := row_ml (by omega) rz34485
      refine lv_if_ne (tgt := 182) hx hb dX13_house_175 (by decide) (fun c34486 => ?_) (fun c34486 => ?_)
      · have w34487 := cv_ne (rfl : z34485.toInt = z34485.toInt) (by decide : (0 : Int32).toInt = 0) c34486
        refine lv_bipush (v := 8) hx hb dX13_house_182 (by decide) ?_
        refine lv_aload_n hx hb dX13_house_184 rfl (lv_at hl 0 rfl) ?_
        refine t_get (C := RX13) (T := TX13) (N := 37) X hT m0 g0 rfl rfl 16 (by decide) qw_112 inlX13 rfl dX13_house_185 (fun v34488 hv34488 ov34488 => ?_)
        obtain rfl : v34488 = .ref b34480 := hv34488.symm.trans hv34479
        refine lv_iconst (v := 0) hx hb dX13_house_188 (by decide) ?_
        refine lv_iload_n hx hb dX13_house_189 rfl (lv_at hl 1 rfl) ?_
        refine lv_iadd hx hb dX13_house_190 ?_
        refine lv_topi (fun z34489 ez34489 => ?_)
        obtain rfl : p1 = z34489 := (ar_zadd ez34489).symm
        refine t_ild X hT mb34480 gb34480 rfl (by omega) dX13_house_191 (fun z34490 vz34490 rz34490 => ?_)
        obtain rfl : z34485 = z34490 := vz34485.symm.trans vz34490
        refine lv_imul hx hb dX13_house_192 ?_
        refine lv_topi (fun z34491 ez34491 => ?_)
        have hz34491 : z34491.toInt = 8 * z34485.toInt := ar_mul ez34491 (by decide : (8 : Int32).toInt = 8) (rfl : z34485.toInt = z34485.toInt) (by omega) (by omega)
        have rz34491 : 8 ≤ z34491.toInt ∧ z34491.toInt ≤ 48 := by omega
        refine lv_icmp_le (tgt := 200) hx hb dX13_house_193 (by decide) (fun c34492 => ?_) (fun c34492 => ?_)
        · have w34493 := cv_le (rfl : z34482.toInt = z34482.toInt) (rfl : z34491.toInt = z34491.toInt) c34492
          refine lv_iconst (v := 0) hx hb dX13_house_200 (by decide) ?_
          refine t_cVi (n := 1) (C := RX13) (T := TX13) (N := 37) (As := [.int 0]) (rest := []) X hT (km93_X13_good l G tag L F hT.2.2.2 p0 0 m0 g0) m0 g0 rfl rfl qw_687 qw_688 qw_689 qw_5 qw_690 ⟨rfl, by decide +kernel, by decide +kernel, by decide +kernel⟩ ⟨Nat.le_of_ble_eq_true rfl, Nat.le_of_ble_eq_true rfl⟩ hl rfl rfl (Nat.le_of_ble_eq_true rfl) dX13_house_201 ⟨Nat.le_of_ble_eq_true rfl, Nat.le_of_ble_eq_true rfl⟩ (fun z34494 F H locs hT hz34494 => ?_)
          obtain ⟨hz34494, yz34494⟩ := hz34494
          have pf0 := (yz34494.1 _ 3 (Or.inr (by decide)) (Or.inr (by decide))).trans pf0
          have v34415 := (yz34494.1 _ 0 (Or.inr (by decide)) (Or.inr (by decide))).trans v34415
          have hv34479 := (yz34494.1 _ 16 (Or.inr (by decide)) (Or.inr (by decide))).trans hv34479
          have vz34482 := (yz34494.2 _ _ ).trans vz34482
          have vz34485 := (yz34494.2 _ _ ).trans vz34485
          have hfr : (∀ b j : Nat, (tag b ≠ 46 ∨ j ≠ 0) → (tag b ≠ 46 ∨ j ≠ 1) → (tag b ≠ 46 ∨ j ≠ 2) → fld F b j = fld Fo b j) ∧ (∀ b j : Nat, elm F b j = elm Fo b j) := ⟨fun b j n46_0 n46_1 n46_2 => (yz34494.1 b j n46_1 n46_2).trans (hfr.1 b j n46_0 n46_1 n46_2), fun b j  => (yz34494.2 b j ).trans (hfr.2 b j )⟩
          exact t_iret hQ X hT (⟨rg_all _, hfr⟩) (Nat.le_of_ble_eq_true rfl) (Nat.le_of_ble_eq_true rfl) dX13_house_204
        · have w34495 := cv_nle (rfl : z34482.toInt = z34482.toInt) (rfl : z34491.toInt = z34491.toInt) c34492
          refine lv_iconst (v := 1) hx hb dX13_house_196 (by decide) ?_
          refine lv_goto (tgt := 201) hx hb dX13_house_197 (by decide) ?_
          refine t_cVi (n := 1) (C := RX13) (T := TX13) (N := 37) (As := [.int 1]) (rest := []) X hT (km93_X13_good l G tag L F hT.2.2.2 p0 1 m0 g0) m0 g0 rfl rfl qw_687 qw_688 qw_689 qw_5 qw_690 ⟨rfl, by decide +kernel, by decide +kernel, by decide +kernel⟩ ⟨Nat.le_of_ble_eq_true rfl, Nat.le_of_ble_eq_true rfl⟩ hl rfl rfl (Nat.le_of_ble_eq_true rfl) dX13_house_201 ⟨Nat.le_of_ble_eq_true rfl, Nat.le_of_ble_eq_true rfl⟩ (fun z34496 F H locs hT hz34496 => ?_)
          obtain ⟨hz34496, yz34496⟩ := hz34496
          have pf0 := (yz34496.1 _ 3 (Or.inr (by decide)) (Or.inr (by decide))).trans pf0
          have v34415 := (yz34496.1 _ 0 (Or.inr (by decide)) (Or.inr (by decide))).trans v34415
          have hv34479 := (yz34496.1 _ 16 (Or.inr (by decide)) (Or.inr (by decide))).trans hv34479
          have vz34482 := (yz34496.2 _ _ ).trans vz34482
          have vz34485 := (yz34496.2 _ _ ).trans vz34485
          have hfr : (∀ b j : Nat, (tag b ≠ 46 ∨ j ≠ 0) → (tag b ≠ 46 ∨ j ≠ 1) → (tag b ≠ 46 ∨ j ≠ 2) → fld F b j = fld Fo b j) ∧ (∀ b j : Nat, elm F b j = elm Fo b j) := ⟨fun b j n46_0 n46_1 n46_2 => (yz34496.1 b j n46_1 n46_2).trans (hfr.1 b j n46_0 n46_1 n46_2), fun b j  => (yz34496.2 b j ).trans (hfr.2 b j )⟩
          exact t_iret hQ X hT (⟨rg_all _, hfr⟩) (Nat.le_of_ble_eq_true rfl) (Nat.le_of_ble_eq_true rfl) dX13_house_204
      · have w34497 := cv_eq (rfl : z34485.toInt = z34485.toInt) (by decide : (0 : Int32).toInt = 0) c34486
        refine lv_iconst (v := 1) hx hb dX13_house_178 (by decide) ?_
        refine lv_goto (tgt := 193) hx hb dX13_house_179 (by decide) ?_
        refine lv_icmp_le (tgt := 200) hx hb dX13_house_193 (by decide) (fun c34498 => ?_) (fun c34498 => ?_)
        · have w34499 := cv_le (rfl : z34482.toInt = z34482.toInt) (by decide : (1 : Int32).toInt = 1) c34498
          refine lv_iconst (v := 0) hx hb dX13_house_200 (by decide) ?_
          refine t_cVi (n := 1) (C := RX13) (T := TX13) (N := 37) (As := [.int 0]) (rest := []) X hT (km93_X13_good l G tag L F hT.2.2.2 p0 0 m0 g0) m0 g0 rfl rfl qw_687 qw_688 qw_689 qw_5 qw_690 ⟨rfl, by decide +kernel, by decide +kernel, by decide +kernel⟩ ⟨Nat.le_of_ble_eq_true rfl, Nat.le_of_ble_eq_true rfl⟩ hl rfl rfl (Nat.le_of_ble_eq_true rfl) dX13_house_201 ⟨Nat.le_of_ble_eq_true rfl, Nat.le_of_ble_eq_true rfl⟩ (fun z34500 F H locs hT hz34500 => ?_)
          obtain ⟨hz34500, yz34500⟩ := hz34500
          have pf0 := (yz34500.1 _ 3 (Or.inr (by decide)) (Or.inr (by decide))).trans pf0
          have v34415 := (yz34500.1 _ 0 (Or.inr (by decide)) (Or.inr (by decide))).trans v34415
          have hv34479 := (yz34500.1 _ 16 (Or.inr (by decide)) (Or.inr (by decide))).trans hv34479
          have vz34482 := (yz34500.2 _ _ ).trans vz34482
          have vz34485 := (yz34500.2 _ _ ).trans vz34485
          have hfr : (∀ b j : Nat, (tag b ≠ 46 ∨ j ≠ 0) → (tag b ≠ 46 ∨ j ≠ 1) → (tag b ≠ 46 ∨ j ≠ 2) → fld F b j = fld Fo b j) ∧ (∀ b j : Nat, elm F b j = elm Fo b j) := ⟨fun b j n46_0 n46_1 n46_2 => (yz34500.1 b j n46_1 n46_2).trans (hfr.1 b j n46_0 n46_1 n46_2), fun b j  => (yz34500.2 b j ).trans (hfr.2 b j )⟩
          exact t_iret hQ X hT (⟨rg_all _, hfr⟩) (Nat.le_of_ble_eq_true rfl) (Nat.le_of_ble_eq_true rfl) dX13_house_204
        · have w34501 := cv_nle (rfl : z34482.toInt = z34482.toInt) (by decide : (1 : Int32).toInt = 1) c34498
          refine lv_iconst (v := 1) hx hb dX13_house_196 (by decide) ?_
          refine lv_goto (tgt := 201) hx hb dX13_house_197 (by decide) ?_
          refine t_cVi (n := 1) (C := RX13) (T := TX13) (N := 37) (As := [.int 1]) (rest := []) X hT (km93_X13_good l G tag L F hT.2.2.2 p0 1 m0 g0) m0 g0 rfl rfl qw_687 qw_688 qw_689 qw_5 qw_690 ⟨rfl, by decide +kernel, by decide +kernel, by decide +kernel⟩ ⟨Nat.le_of_ble_eq_true rfl, Nat.le_of_ble_eq_true rfl⟩ hl rfl rfl (Nat.le_of_ble_eq_true rfl) dX13_house_201 ⟨Nat.le_of_ble_eq_true rfl, Nat.le_of_ble_eq_true rfl⟩ (fun z34502 F H locs hT hz34502 => ?_)
          obtain ⟨hz34502, yz34502⟩ := hz34502
          have pf0 := (yz34502.1 _ 3 (Or.inr (by decide)) (Or.inr (by decide))).trans pf0
          have v34415 := (yz34502.1 _ 0 (Or.inr (by decide)) (Or.inr (by decide))).trans v34415
          have hv34479 := (yz34502.1 _ 16 (Or.inr (by decide)) (Or.inr (by decide))).trans hv34479
          have vz34482 := (yz34502.2 _ _ ).trans vz34482
          have vz34485 := (yz34502.2 _ _ ).trans vz34485
          have hfr : (∀ b j : Nat, (tag b ≠ 46 ∨ j ≠ 0) → (tag b ≠ 46 ∨ j ≠ 1) → (tag b ≠ 46 ∨ j ≠ 2) → fld F b j = fld Fo b j) ∧ (∀ b j : Nat, elm F b j = elm Fo b j) := ⟨fun b j n46_0 n46_1 n46_2 => (yz34502.1 b j n46_1 n46_2).trans (hfr.1 b j n46_0 n46_1 n46_2), fun b j  => (yz34502.2 b j ).trans (hfr.2 b j )⟩
          exact t_iret hQ X hT (⟨rg_all _, hfr⟩) (Nat.le_of_ble_eq_true rfl) (Nat.le_of_ble_eq_true rfl) dX13_house_204
    · have w34503 := cv_eq (rfl : z34422.toInt = z34422.toInt) (by decide : (0 : Int32).toInt = 0) c34425
      refine lv_aload_n hx hb dX13_house_23 rfl (lv_at hl 0 rfl) ?_
      refine lv_iconst (v := 1) hx hb dX13_house_24 (by decide) ?_
      refine t_cVi (n := 1) (C := RX13) (T := TX13) (N := 37) (As := [.int 1]) (rest := []) X hT (km88_X13_refused l G tag L F hT.2.2.2 p0 1 m0 g0) m0 g0 rfl rfl qw_484 qw_485 qw_486 qw_5 qw_487 ⟨rfl, by decide +kernel, by decide +kernel, by decide +kernel⟩ ⟨Nat.le_of_ble_eq_true rfl, Nat.le_of_ble_eq_true rfl⟩ hl rfl rfl (Nat.le_of_ble_eq_true rfl) dX13_house_25 ⟨Nat.le_of_ble_eq_true rfl, Nat.le_of_ble_eq_true rfl⟩ (fun z34504 F H locs hT hz34504 => ?_)
      obtain ⟨hz34504, yz34504⟩ := hz34504
      have pf0 := (yz34504.1 _ 3 (Or.inr (by decide)) (Or.inr (by decide))).trans pf0
      have v34415 := (yz34504.1 _ 0 (Or.inr (by decide)) (Or.inr (by decide))).trans v34415
      have hfr : (∀ b j : Nat, (tag b ≠ 46 ∨ j ≠ 0) → (tag b ≠ 46 ∨ j ≠ 1) → (tag b ≠ 46 ∨ j ≠ 2) → fld F b j = fld Fo b j) ∧ (∀ b j : Nat, elm F b j = elm Fo b j) := ⟨fun b j n46_0 n46_1 n46_2 => (yz34504.1 b j n46_1 n46_2).trans (hfr.1 b j n46_0 n46_1 n46_2), fun b j  => (yz34504.2 b j ).trans (hfr.2 b j )⟩
      exact t_iret hQ X hT (⟨rg_all _, hfr⟩) (Nat.le_of_ble_eq_true rfl) (Nat.le_of_ble_eq_true rfl) dX13_house_28
