set_option maxHeartbeats 4000000 in
set_option maxRecDepth 100000 in
theorem km228_X13_orders (l : Launch) (G : KG) (tag : Nat → Nat) (L : List Nat) (Fo : Nat → va_E) (ho : okT G ttC tag L Fo) (p0 : Nat) (x0 : Nat) (m0 : p0 ∈ L) (g0 : tag p0 = 46) (mx0 : x0 ∈ L) (gx0 : tag x0 = 45) (pf0 : fld Fo p0 3 = .ref x0) : TMi l yX13_orders cX13_orders 1 (some .int) { frames := 4, cells := 0, slots := 0, locals := 91 } G ttC tag L Fo [.ref p0] (fun r F1 => ((-2147483648) ≤ r.toInt ∧ r.toInt ≤ 2147483647) ∧ ((∀ b j : Nat, (tag b ≠ 46 ∨ j ≠ 0) → (tag b ≠ 46 ∨ j ≠ 1) → (tag b ≠ 46 ∨ j ≠ 2) → (tag b ≠ 46 ∨ j ≠ 36) → fld F1 b j = fld Fo b j) ∧ (∀ b j : Nat, tag b ≠ 33 → tag b ≠ 43 → elm F1 b j = elm Fo b j))) := by
  refine t_bodyi (y := yX13_orders) (cd := cX13_orders) (mL := 1) (rt := (some .int)) (rm := { frames := 4, cells := 0, slots := 0, locals := 91 }) (av := [.ref p0]) (by decide) (Nat.le_of_ble_eq_true rfl) ho ?_
  intro p e s m args below meth c ls A Q hQ X hT hl
  have hx := X.1.1
  have hb := X.1.2.1
  have hl : lv_has ls 1 [(0, .ref p0)] := hl
  obtain ⟨F, hFo⟩ : ∃ F : Nat → va_E, F = Fo := ⟨_, rfl⟩
  rw [← hFo] at hT pf0
  have hfr : (∀ b j : Nat, (tag b ≠ 46 ∨ j ≠ 0) → (tag b ≠ 46 ∨ j ≠ 1) → (tag b ≠ 46 ∨ j ≠ 2) → (tag b ≠ 46 ∨ j ≠ 36) → fld F b j = fld Fo b j) ∧ (∀ b j : Nat, tag b ≠ 33 → tag b ≠ 43 → elm F b j = elm Fo b j) := by
    rw [hFo]
    exact ⟨by intros; rfl, by intros; rfl⟩
  refine lv_aload_n hx hb dX13_orders_0 rfl (lv_at hl 0 rfl) ?_
  refine lv_iconst (v := 0) hx hb dX13_orders_1 (by decide) ?_
  refine t_put (C := RX13) (T := TX13) (N := 37) (v := .int 0) X hT m0 g0 rfl tyX13 tyX13_ok nmX13 rfl 0 (by decide) qw_140 inlX13 rfl (by first | rfl | decide) (by first | rfl | decide) rfl (⟨_, rfl, (show (-2147483648) ≤ (0 : Int32).toInt from (by decide)), (show (0 : Int32).toInt ≤ 2147483647 from (by decide))⟩) dX13_orders_2 (fun F H locs hT v72973 h1v72973 h2v72973 => ?_)
  have pf0 := (h1v72973 _ _ (Or.inr (by decide))).trans pf0
  have hfr : (∀ b j : Nat, (tag b ≠ 46 ∨ j ≠ 0) → (tag b ≠ 46 ∨ j ≠ 1) → (tag b ≠ 46 ∨ j ≠ 2) → (tag b ≠ 46 ∨ j ≠ 36) → fld F b j = fld Fo b j) ∧ (∀ b j : Nat, tag b ≠ 33 → tag b ≠ 43 → elm F b j = elm Fo b j) := ⟨fun b j n46_0 n46_1 n46_2 n46_36 => (h1v72973 b j (fr_ne g0 n46_0)).trans (hfr.1 b j n46_0 n46_1 n46_2 n46_36), fun b j a33 a43 => (h2v72973 b j).trans (hfr.2 b j a33 a43)⟩
  refine lv_aload_n hx hb dX13_orders_5 rfl (lv_at hl 0 rfl) ?_
  refine t_get (C := RX13) (T := TX13) (N := 37) X hT m0 g0 rfl rfl 3 (by decide) qw_481 inlX13 rfl dX13_orders_6 (fun v72974 hv72974 ov72974 => ?_)
  obtain rfl : v72974 = .ref x0 := hv72974.symm.trans pf0
  refine lv_ifnonnull (tgt := 18) hx hb dX13_orders_9 (by decide) ?_
  refine lv_aload_n hx hb dX13_orders_18 rfl (lv_at hl 0 rfl) ?_
  refine lv_iconst (v := (-1)) hx hb dX13_orders_19 (by decide) ?_
  obtain ⟨z72975, qz72975, mz72975, gz72975⟩ := t_fldr hT m0 g0 rfl 29 rfl
  have gz72975 : tag z72975 = 43 := tg_of gz72975
  refine t_cVv (n := 1) (C := RX13) (T := TX13) (N := 37) (As := [.int (-1)]) (rest := []) X hT (km227_X13_findsOrders l G tag L F hT.2.2.2 p0 (-1) x0 z72975 m0 g0 mx0 gx0 pf0 mz72975 gz72975 qz72975) m0 g0 rfl rfl qw_1362 qw_1363 qw_1364 qw_5 qw_1365 ⟨rfl, by decide +kernel, by decide +kernel, by decide +kernel⟩ ⟨Nat.le_of_ble_eq_true rfl, Nat.le_of_ble_eq_true rfl⟩ hl rfl rfl (Nat.le_of_ble_eq_true rfl) dX13_orders_20 ⟨Nat.le_of_ble_eq_true rfl, Nat.le_of_ble_eq_true rfl⟩ (fun F H locs hT hz72976 => ?_)
  have yz72976 := hz72976
  have pf0 := (yz72976.1 _ 3 (Or.inr (by decide))).trans pf0
  have v72973 := (yz72976.1 _ 0 (Or.inr (by decide))).trans v72973
  have qz72975 := (yz72976.1 _ 29 (Or.inr (by decide))).trans qz72975
  have hfr : (∀ b j : Nat, (tag b ≠ 46 ∨ j ≠ 0) → (tag b ≠ 46 ∨ j ≠ 1) → (tag b ≠ 46 ∨ j ≠ 2) → (tag b ≠ 46 ∨ j ≠ 36) → fld F b j = fld Fo b j) ∧ (∀ b j : Nat, tag b ≠ 33 → tag b ≠ 43 → elm F b j = elm Fo b j) := ⟨fun b j n46_0 n46_1 n46_2 n46_36 => (yz72976.1 b j n46_36).trans (hfr.1 b j n46_0 n46_1 n46_2 n46_36), fun b j a33 a43 => (yz72976.2 b j a33 a43).trans (hfr.2 b j a33 a43)⟩
  refine lv_aload_n hx hb dX13_orders_23 rfl (lv_at hl 0 rfl) ?_
  refine lv_aload_n hx hb dX13_orders_24 rfl (lv_at hl 0 rfl) ?_
  refine t_get (C := RX13) (T := TX13) (N := 37) X hT m0 g0 rfl rfl 36 (by decide) qw_1361 inlX13 rfl dX13_orders_25 (fun v72977 hv72977 ov72977 => ?_)
  obtain ⟨z72978, rfl, rz72978⟩ := okV_i ov72977
  refine t_cVi (n := 1) (C := RX13) (T := TX13) (N := 37) (As := [.int z72978]) (rest := []) X hT (km93_X13_good l G tag L F hT.2.2.2 p0 z72978 m0 g0) m0 g0 rfl rfl qw_687 qw_688 qw_689 qw_5 qw_690 ⟨rfl, by decide +kernel, by decide +kernel, by decide +kernel⟩ ⟨Nat.le_of_ble_eq_true rfl, Nat.le_of_ble_eq_true rfl⟩ hl rfl rfl (Nat.le_of_ble_eq_true rfl) dX13_orders_28 ⟨Nat.le_of_ble_eq_true rfl, Nat.le_of_ble_eq_true rfl⟩ (fun z72979 F H locs hT hz72979 => ?_)
  obtain ⟨hz72979, yz72979⟩ := hz72979
  have pf0 := (yz72979.1 _ 3 (Or.inr (by decide)) (Or.inr (by decide))).trans pf0
  have v72973 := (yz72979.1 _ 0 (Or.inr (by decide)) (Or.inr (by decide))).trans v72973
  have qz72975 := (yz72979.1 _ 29 (Or.inr (by decide)) (Or.inr (by decide))).trans qz72975
  have hv72977 := (yz72979.1 _ 36 (Or.inr (by decide)) (Or.inr (by decide))).trans hv72977
  have hfr : (∀ b j : Nat, (tag b ≠ 46 ∨ j ≠ 0) → (tag b ≠ 46 ∨ j ≠ 1) → (tag b ≠ 46 ∨ j ≠ 2) → (tag b ≠ 46 ∨ j ≠ 36) → fld F b j = fld Fo b j) ∧ (∀ b j : Nat, tag b ≠ 33 → tag b ≠ 43 → elm F b j = elm Fo b j) := ⟨fun b j n46_0 n46_1 n46_2 n46_36 => (yz72979.1 b j n46_1 n46_2).trans (hfr.1 b j n46_0 n46_1 n46_2 n46_36), fun b j a33 a43 => (yz72979.2 b j ).trans (hfr.2 b j a33 a43)⟩
  exact t_iret hQ X hT (⟨rg_all _, hfr⟩) (Nat.le_of_ble_eq_true rfl) (Nat.le_of_ble_eq_true rfl) dX13_orders_31
set_option maxHeartbeats 4000000 in
set_option maxRecDepth 100000 in
theorem km229_X13_orders (l : Launch) (G : KG) (tag : Nat → Nat) (L : List Nat) (Fo : Nat → va_E) (ho : okT G ttC tag L Fo) (p0 : Nat) (m0 : p0 ∈ L) (g0 : tag p0 = 46) (pf0 : fld Fo p0 3 = .null) : TMi l yX13_orders cX13_orders 1 (some .int) { frames := 4, cells := 0, slots := 0, locals := 91 } G ttC tag L Fo [.ref p0] (fun r F1 => ((-2147483648) ≤ r.toInt ∧ r.toInt ≤ 2147483647) ∧ ((∀ b j : Nat, (tag b ≠ 46 ∨ j ≠ 0) → (tag b ≠ 46 ∨ j ≠ 1) → (tag b ≠ 46 ∨ j ≠ 2) → (tag b ≠ 46 ∨ j ≠ 36) → fld F1 b j = fld Fo b j) ∧ (∀ b j : Nat, tag b ≠ 33 → tag b ≠ 43 → elm F1 b j = elm Fo b j))) := by
  refine t_bodyi (y := yX13_orders) (cd := cX13_orders) (mL := 1) (rt := (some .int)) (rm := { frames := 4, cells := 0, slots := 0, locals := 91 }) (av := [.ref p0]) (by decide) (Nat.le_of_ble_eq_true rfl) ho ?_
  intro p e s m args below meth c ls A Q hQ X hT hl
  have hx := X.1.1
  have hb := X.1.2.1
  have hl : lv_has ls 1 [(0, .ref p0)] := hl
  obtain ⟨F, hFo⟩ : ∃ F : Nat → va_E, F = Fo := ⟨_, rfl⟩
  rw [← hFo] at hT pf0
  have hfr : (∀ b j : Nat, (tag b ≠ 46 ∨ j ≠ 0) → (tag b ≠ 46 ∨ j ≠ 1) → (tag b ≠ 46 ∨ j ≠ 2) → (tag b ≠ 46 ∨ j ≠ 36) → fld F b j = fld Fo b j) ∧ (∀ b j : Nat, tag b ≠ 33 → tag b ≠ 43 → elm F b j = elm Fo b j) := by
    rw [hFo]
    exact ⟨by intros; rfl, by intros; rfl⟩
  refine lv_aload_n hx hb dX13_orders_0 rfl (lv_at hl 0 rfl) ?_
  refine lv_iconst (v := 0) hx hb dX13_orders_1 (by decide) ?_
  refine t_put (C := RX13) (T := TX13) (N := 37) (v := .int 0) X hT m0 g0 rfl tyX13 tyX13_ok nmX13 rfl 0 (by decide) qw_140 inlX13 rfl (by first | rfl | decide) (by first | rfl | decide) rfl (⟨_, rfl, (show (-2147483648) ≤ (0 : Int32).toInt from (by decide)), (show (0 : Int32).toInt ≤ 2147483647 from (by decide))⟩) dX13_orders_2 (fun F H locs hT v73013 h1v73013 h2v73013 => ?_)
  have pf0 := (h1v73013 _ _ (Or.inr (by decide))).trans pf0
  have hfr : (∀ b j : Nat, (tag b ≠ 46 ∨ j ≠ 0) → (tag b ≠ 46 ∨ j ≠ 1) → (tag b ≠ 46 ∨ j ≠ 2) → (tag b ≠ 46 ∨ j ≠ 36) → fld F b j = fld Fo b j) ∧ (∀ b j : Nat, tag b ≠ 33 → tag b ≠ 43 → elm F b j = elm Fo b j) := ⟨fun b j n46_0 n46_1 n46_2 n46_36 => (h1v73013 b j (fr_ne g0 n46_0)).trans (hfr.1 b j n46_0 n46_1 n46_2 n46_36), fun b j a33 a43 => (h2v73013 b j).trans (hfr.2 b j a33 a43)⟩
  refine lv_aload_n hx hb dX13_orders_5 rfl (lv_at hl 0 rfl) ?_
  refine t_get (C := RX13) (T := TX13) (N := 37) X hT m0 g0 rfl rfl 3 (by decide) qw_481 inlX13 rfl dX13_orders_6 (fun v73014 hv73014 ov73014 => ?_)
  obtain rfl : v73014 = .null := hv73014.symm.trans pf0
  refine lv_ifnonnullN hx hb dX13_orders_9 ?_
  refine lv_aload_n hx hb dX13_orders_12 rfl (lv_at hl 0 rfl) ?_
  refine lv_iconst (v := 1) hx hb dX13_orders_13 (by decide) ?_
  refine t_cVi (n := 1) (C := RX13) (T := TX13) (N := 37) (As := [.int 1]) (rest := []) X hT (km88_X13_refused l G tag L F hT.2.2.2 p0 1 m0 g0) m0 g0 rfl rfl qw_484 qw_485 qw_486 qw_5 qw_487 ⟨rfl, by decide +kernel, by decide +kernel, by decide +kernel⟩ ⟨Nat.le_of_ble_eq_true rfl, Nat.le_of_ble_eq_true rfl⟩ hl rfl rfl (Nat.le_of_ble_eq_true rfl) dX13_orders_14 ⟨Nat.le_of_ble_eq_true rfl, Nat.le_of_ble_eq_true rfl⟩ (fun z73015 F H locs hT hz73015 => ?_)
  obtain ⟨hz73015, yz73015⟩ := hz73015
  have pf0 := (yz73015.1 _ 3 (Or.inr (by decide)) (Or.inr (by decide))).trans pf0
  have v73013 := (yz73015.1 _ 0 (Or.inr (by decide)) (Or.inr (by decide))).trans v73013
  have hfr : (∀ b j : Nat, (tag b ≠ 46 ∨ j ≠ 0) → (tag b ≠ 46 ∨ j ≠ 1) → (tag b ≠ 46 ∨ j ≠ 2) → (tag b ≠ 46 ∨ j ≠ 36) → fld F b j = fld Fo b j) ∧ (∀ b j : Nat, tag b ≠ 33 → tag b ≠ 43 → elm F b j = elm Fo b j) := ⟨fun b j n46_0 n46_1 n46_2 n46_36 => (yz73015.1 b j n46_1 n46_2).trans (hfr.1 b j n46_0 n46_1 n46_2 n46_36), fun b j a33 a43 => (yz73015.2 b j ).trans (hfr.2 b j a33 a43)⟩
  exact t_iret hQ X hT (⟨rg_all _, hfr⟩) (Nat.le_of_ble_eq_true rfl) (Nat.le_of_ble_eq_true rfl) dX13_orders_17
theorem kp_X13_orders (l : Launch) (G : KG) (tag : Nat → Nat) (L : List Nat) (Fo : Nat → va_E) (ho : okT G ttC tag L Fo) (p0 : Nat) (m0 : p0 ∈ L) (g0 : tag p0 = 46) : TMi l yX13_orders cX13_orders 1 (some .int) { frames := 4, cells := 0, slots := 0, locals := 91 } G ttC tag L Fo [.ref p0] (fun r F1 => ((-2147483648) ≤ r.toInt ∧ r.toInt ≤ 2147483647) ∧ ((∀ b j : Nat, (tag b ≠ 46 ∨ j ≠ 0) → (tag b ≠ 46 ∨ j ≠ 1) → (tag b ≠ 46 ∨ j ≠ 2) → (tag b ≠ 46 ∨ j ≠ 36) → fld F1 b j = fld Fo b j) ∧ (∀ b j : Nat, tag b ≠ 33 → tag b ≠ 43 → elm F1 b j = elm Fo b j))) := by
  rcases t_fldn ho m0 g0 rfl 3 rfl with h9 | ⟨b9, h9, m9, t9⟩
  · exact km229_X13_orders l G tag L Fo ho p0  m0 g0 h9 
  · exact km228_X13_orders l G tag L Fo ho p0 b9  m0 g0 m9 (tg_of t9) h9 
set_option maxHeartbeats 4000000 in
set_option maxRecDepth 100000 in
theorem km231_X13_isWall (l : Launch) (G : KG) (tag : Nat → Nat) (L : List Nat) (F : Nat → va_E) (ho : okT G ttC tag L F) (p0 : Nat) (p1 : Int32) (x0 : Nat) (m0 : p0 ∈ L) (g0 : tag p0 = 46) (mx0 : x0 ∈ L) (gx0 : tag x0 = 45) (pf0 : fld F p0 3 = .ref x0) : TMi l yX13_isWall cX13_isWall 2 (some .boolean) { frames := 0, cells := 0, slots := 0, locals := 0 } G ttC tag L F [.ref p0, .int p1] (fun r F1 => F1 = F ∧ ((0 ≤ r.toInt ∧ r.toInt ≤ 1) ∧ (r.toInt ≠ 0 → (0 ≤ p1.toInt ∧ p1.toInt ≤ 5)))) := by
  refine t_bodyi (y := yX13_isWall) (cd := cX13_isWall) (mL := 2) (rt := (some .boolean)) (rm := { frames := 0, cells := 0, slots := 0, locals := 0 }) (av := [.ref p0, .int p1]) (by decide) (Nat.le_of_ble_eq_true rfl) ho ?_
  intro p e s m args below meth c ls A Q hQ X hT hl
  have hx := X.1.1
  have hb := X.1.2.1
  have hl : lv_has ls 2 [(0, .ref p0), (1, .int p1)] := hl
  have rp1 := rg_all p1
  refine lv_aload_n hx hb dX13_isWall_0 rfl (lv_at hl 0 rfl) ?_
  refine t_get (C := RX13) (T := TX13) (N := 37) X hT m0 g0 rfl rfl 3 (by decide) qw_481 inlX13 rfl dX13_isWall_1 (fun v73127 hv73127 ov73127 => ?_)
  obtain rfl : v73127 = .ref x0 := hv73127.symm.trans pf0
  refine lv_ifnull hx hb dX13_isWall_4 ?_
  refine lv_iload_n hx hb dX13_isWall_7 rfl (lv_at hl 1 rfl) ?_
  refine lv_if_lt (tgt := 26) hx hb dX13_isWall_8 (by decide) (fun c73128 => ?_) (fun c73128 => ?_)
  · have w73129 := cv_lt (rfl : p1.toInt = p1.toInt) (by decide : (0 : Int32).toInt = 0) c73128
    refine lv_iconst (v := 0) hx hb dX13_isWall_26 (by decide) ?_
    have k73130 : (0 : Int32).toInt = 0 := by decide
    exact t_zret hQ X hT (by decide) (⟨rfl, ⟨(by decide), fun h => absurd (by decide) h⟩⟩) (Nat.le_of_ble_eq_true rfl) (Nat.le_of_ble_eq_true rfl) dX13_isWall_27
  · have w73131 := cv_nlt (rfl : p1.toInt = p1.toInt) (by decide : (0 : Int32).toInt = 0) c73128
    refine lv_iload_n hx hb dX13_isWall_11 rfl (lv_at hl 1 rfl) ?_
    refine lv_aload_n hx hb dX13_isWall_12 rfl (lv_at hl 0 rfl) ?_
    refine t_get (C := RX13) (T := TX13) (N := 37) X hT m0 g0 rfl rfl 3 (by decide) qw_481 inlX13 rfl dX13_isWall_13 (fun v73132 hv73132 ov73132 => ?_)
    obtain rfl : v73132 = .ref x0 := hv73132.symm.trans pf0
    refine t_getN (C := RX12) (T := TX12) (N := 31) X hT mx0 gx0 rfl rfl 10 (by decide) (List.mem_of_getElem? (i := 14) rfl) inlX12 rfl dX13_isWall_16 (fun v73133 hv73133 ov73133 => ?_)
    obtain ⟨z73134, rfl, rz73134⟩ := okV_i ov73133
    refine lv_icmp_ge (tgt := 26) hx hb dX13_isWall_19 (by decide) (fun c73135 => ?_) (fun c73135 => ?_)
    · have w73136 := cv_le (rfl : z73134.toInt = z73134.toInt) (rfl : p1.toInt = p1.toInt) c73135
      refine lv_iconst (v := 0) hx hb dX13_isWall_26 (by decide) ?_
      have k73137 : (0 : Int32).toInt = 0 := by decide
      exact t_zret hQ X hT (by decide) (⟨rfl, ⟨(by decide), fun h => absurd (by decide) h⟩⟩) (Nat.le_of_ble_eq_true rfl) (Nat.le_of_ble_eq_true rfl) dX13_isWall_27
    · have w73138 := cv_nle (rfl : z73134.toInt = z73134.toInt) (rfl : p1.toInt = p1.toInt) c73135
      refine lv_iconst (v := 1) hx hb dX13_isWall_22 (by decide) ?_
      refine lv_goto (tgt := 27) hx hb dX13_isWall_23 (by decide) ?_
      have k73139 : (1 : Int32).toInt = 1 := by decide
      exact t_zret hQ X hT (by decide) (⟨rfl, ⟨(by decide), fun _ => by omega⟩⟩) (Nat.le_of_ble_eq_true rfl) (Nat.le_of_ble_eq_true rfl) dX13_isWall_27
set_option maxHeartbeats 4000000 in
set_option maxRecDepth 100000 in
theorem km232_X13_order (l : Launch) (G : KG) (tag : Nat → Nat) (L : List Nat) (Fo : Nat → va_E) (ho : okT G ttC tag L Fo) (p0 : Nat) (p1 : Int32) (p2 : Int32) (x0 : Nat) (m0 : p0 ∈ L) (g0 : tag p0 = 46) (mx0 : x0 ∈ L) (gx0 : tag x0 = 45) (pf0 : fld Fo p0 3 = .ref x0) : TMi l yX13_order cX13_order 3 (some .int) { frames := 4, cells := 0, slots := 0, locals := 91 } G ttC tag L Fo [.ref p0, .int p1, .int p2] (fun r F1 => ((-2147483648) ≤ r.toInt ∧ r.toInt ≤ 2147483647) ∧ ((∀ b j : Nat, (tag b ≠ 46 ∨ j ≠ 0) → (tag b ≠ 46 ∨ j ≠ 1) → (tag b ≠ 46 ∨ j ≠ 2) → (tag b ≠ 46 ∨ j ≠ 36) → fld F1 b j = fld Fo b j) ∧ (∀ b j : Nat, tag b ≠ 33 → tag b ≠ 43 → elm F1 b j = elm Fo b j))) := by
  refine t_bodyi (y := yX13_order) (cd := cX13_order) (mL := 3) (rt := (some .int)) (rm := { frames := 4, cells := 0, slots := 0, locals := 91 }) (av := [.ref p0, .int p1, .int p2]) (by decide) (Nat.le_of_ble_eq_true rfl) ho ?_
  intro p e s m args below meth c ls A Q hQ X hT hl
  have hx := X.1.1
  have hb := X.1.2.1
  have hl : lv_has ls 3 [(0, .ref p0), (1, .int p1), (2, .int p2)] := hl
  have rp1 := rg_all p1
  have rp2 := rg_all p2
  obtain ⟨F, hFo⟩ : ∃ F : Nat → va_E, F = Fo := ⟨_, rfl⟩
  rw [← hFo] at hT pf0
  have hfr : (∀ b j : Nat, (tag b ≠ 46 ∨ j ≠ 0) → (tag b ≠ 46 ∨ j ≠ 1) → (tag b ≠ 46 ∨ j ≠ 2) → (tag b ≠ 46 ∨ j ≠ 36) → fld F b j = fld Fo b j) ∧ (∀ b j : Nat, tag b ≠ 33 → tag b ≠ 43 → elm F b j = elm Fo b j) := by
    rw [hFo]
    exact ⟨by intros; rfl, by intros; rfl⟩
  refine lv_aload_n hx hb dX13_order_0 rfl (lv_at hl 0 rfl) ?_
  refine lv_iconst (v := 0) hx hb dX13_order_1 (by decide) ?_
  refine t_put (C := RX13) (T := TX13) (N := 37) (v := .int 0) X hT m0 g0 rfl tyX13 tyX13_ok nmX13 rfl 0 (by decide) qw_140 inlX13 rfl (by first | rfl | decide) (by first | rfl | decide) rfl (⟨_, rfl, (show (-2147483648) ≤ (0 : Int32).toInt from (by decide)), (show (0 : Int32).toInt ≤ 2147483647 from (by decide))⟩) dX13_order_2 (fun F H locs hT v73392 h1v73392 h2v73392 => ?_)
  have pf0 := (h1v73392 _ _ (Or.inr (by decide))).trans pf0
  have hfr : (∀ b j : Nat, (tag b ≠ 46 ∨ j ≠ 0) → (tag b ≠ 46 ∨ j ≠ 1) → (tag b ≠ 46 ∨ j ≠ 2) → (tag b ≠ 46 ∨ j ≠ 36) → fld F b j = fld Fo b j) ∧ (∀ b j : Nat, tag b ≠ 33 → tag b ≠ 43 → elm F b j = elm Fo b j) := ⟨fun b j n46_0 n46_1 n46_2 n46_36 => (h1v73392 b j (fr_ne g0 n46_0)).trans (hfr.1 b j n46_0 n46_1 n46_2 n46_36), fun b j a33 a43 => (h2v73392 b j).trans (hfr.2 b j a33 a43)⟩
  refine lv_aload_n hx hb dX13_order_5 rfl (lv_at hl 0 rfl) ?_
  refine lv_iload_n hx hb dX13_order_6 rfl (lv_at hl 2 rfl) ?_
  refine t_cVi (n := 1) (C := RX13) (T := TX13) (N := 37) (As := [.int p2]) (rest := []) X hT (km231_X13_isWall l G tag L F hT.2.2.2 p0 p2 x0 m0 g0 mx0 gx0 pf0) m0 g0 rfl rfl qw_1392 qw_1393 qw_1394 qw_5 qw_1395 ⟨rfl, by decide +kernel, by decide +kernel, by decide +kernel⟩ ⟨Nat.le_of_ble_eq_true rfl, Nat.le_of_ble_eq_true rfl⟩ hl rfl rfl (Nat.le_of_ble_eq_true rfl) dX13_order_7 ⟨Nat.le_of_ble_eq_true rfl, Nat.le_of_ble_eq_true rfl⟩ (fun z73393 F9 H locs hT hz73393 => ?_)
  obtain ⟨fz73393, hz73393⟩ := hz73393
  rw [fz73393] at hT
  obtain ⟨hz73393, iz73393⟩ := hz73393
  refine lv_if_eq (tgt := 17) hx hb dX13_order_10 (by decide) (fun c73394 => ?_) (fun c73394 => ?_)
  · have w73395 := cv_eq (rfl : z73393.toInt = z73393.toInt) (by decide : (0 : Int32).toInt = 0) c73394
    refine lv_aload_n hx hb dX13_order_17 rfl (lv_at hl 0 rfl) ?_
    refine lv_iconst (v := 1) hx hb dX13_order_18 (by decide) ?_
    refine t_cVi (n := 1) (C := RX13) (T := TX13) (N := 37) (As := [.int 1]) (rest := []) X hT (km88_X13_refused l G tag L F hT.2.2.2 p0 1 m0 g0) m0 g0 rfl rfl qw_484 qw_485 qw_486 qw_5 qw_487 ⟨rfl, by decide +kernel, by decide +kernel, by decide +kernel⟩ ⟨Nat.le_of_ble_eq_true rfl, Nat.le_of_ble_eq_true rfl⟩ hl rfl rfl (Nat.le_of_ble_eq_true rfl) dX13_order_19 ⟨Nat.le_of_ble_eq_true rfl, Nat.le_of_ble_eq_true rfl⟩ (fun z73396 F H locs hT hz73396 => ?_)
    obtain ⟨hz73396, yz73396⟩ := hz73396
    have pf0 := (yz73396.1 _ 3 (Or.inr (by decide)) (Or.inr (by decide))).trans pf0
    have v73392 := (yz73396.1 _ 0 (Or.inr (by decide)) (Or.inr (by decide))).trans v73392
    have hfr : (∀ b j : Nat, (tag b ≠ 46 ∨ j ≠ 0) → (tag b ≠ 46 ∨ j ≠ 1) → (tag b ≠ 46 ∨ j ≠ 2) → (tag b ≠ 46 ∨ j ≠ 36) → fld F b j = fld Fo b j) ∧ (∀ b j : Nat, tag b ≠ 33 → tag b ≠ 43 → elm F b j = elm Fo b j) := ⟨fun b j n46_0 n46_1 n46_2 n46_36 => (yz73396.1 b j n46_1 n46_2).trans (hfr.1 b j n46_0 n46_1 n46_2 n46_36), fun b j a33 a43 => (yz73396.2 b j ).trans (hfr.2 b j a33 a43)⟩
    exact t_iret hQ X hT (⟨rg_all _, hfr⟩) (Nat.le_of_ble_eq_true rfl) (Nat.le_of_ble_eq_true rfl) dX13_order_22
  · have w73397 := cv_ne (rfl : z73393.toInt = z73393.toInt) (by decide : (0 : Int32).toInt = 0) c73394
    have w73398 := (fun h => (iz73393 h)) (by omega)
    refine lv_iload_n hx hb dX13_order_13 rfl (lv_at hl 1 rfl) ?_
    refine lv_if_ge (tgt := 23) hx hb dX13_order_14 (by decide) (fun c73399 => ?_) (fun c73399 => ?_)
    · have w73400 := cv_le (by decide : (0 : Int32).toInt = 0) (rfl : p1.toInt = p1.toInt) c73399
      refine lv_aload_n hx hb dX13_order_23 rfl (lv_at hl 0 rfl) ?_
      refine lv_iload_n hx hb dX13_order_24 rfl (lv_at hl 1 rfl) ?_
      obtain ⟨z73401, qz73401, mz73401, gz73401⟩ := t_fldr hT m0 g0 rfl 29 rfl
      have gz73401 : tag z73401 = 43 := tg_of gz73401
      refine t_cVv (n := 1) (C := RX13) (T := TX13) (N := 37) (As := [.int p1]) (rest := []) X hT (km227_X13_findsOrders l G tag L F hT.2.2.2 p0 p1 x0 z73401 m0 g0 mx0 gx0 pf0 mz73401 gz73401 qz73401) m0 g0 rfl rfl qw_1362 qw_1363 qw_1364 qw_5 qw_1365 ⟨rfl, by decide +kernel, by decide +kernel, by decide +kernel⟩ ⟨Nat.le_of_ble_eq_true rfl, Nat.le_of_ble_eq_true rfl⟩ hl rfl rfl (Nat.le_of_ble_eq_true rfl) dX13_order_25 ⟨Nat.le_of_ble_eq_true rfl, Nat.le_of_ble_eq_true rfl⟩ (fun F H locs hT hz73402 => ?_)
      have yz73402 := hz73402
      have pf0 := (yz73402.1 _ 3 (Or.inr (by decide))).trans pf0
      have v73392 := (yz73402.1 _ 0 (Or.inr (by decide))).trans v73392
      have qz73401 := (yz73402.1 _ 29 (Or.inr (by decide))).trans qz73401
      have hfr : (∀ b j : Nat, (tag b ≠ 46 ∨ j ≠ 0) → (tag b ≠ 46 ∨ j ≠ 1) → (tag b ≠ 46 ∨ j ≠ 2) → (tag b ≠ 46 ∨ j ≠ 36) → fld F b j = fld Fo b j) ∧ (∀ b j : Nat, tag b ≠ 33 → tag b ≠ 43 → elm F b j = elm Fo b j) := ⟨fun b j n46_0 n46_1 n46_2 n46_36 => (yz73402.1 b j n46_36).trans (hfr.1 b j n46_0 n46_1 n46_2 n46_36), fun b j a33 a43 => (yz73402.2 b j a33 a43).trans (hfr.2 b j a33 a43)⟩
      refine lv_iload_n hx hb dX13_order_28 rfl (lv_at hl 1 rfl) ?_
      refine lv_aload_n hx hb dX13_order_29 rfl (lv_at hl 0 rfl) ?_
      refine t_get (C := RX13) (T := TX13) (N := 37) X hT m0 g0 rfl rfl 36 (by decide) qw_1361 inlX13 rfl dX13_order_30 (fun v73403 hv73403 ov73403 => ?_)
      obtain ⟨z73404, rfl, rz73404⟩ := okV_i ov73403
      refine lv_icmp_ge (tgt := 49) hx hb dX13_order_33 (by decide) (fun c73405 => ?_) (fun c73405 => ?_)
      · have w73406 := cv_le (rfl : z73404.toInt = z73404.toInt) (rfl : p1.toInt = p1.toInt) c73405
        refine lv_aload_n hx hb dX13_order_49 rfl (lv_at hl 0 rfl) ?_
        refine lv_iconst (v := 1) hx hb dX13_order_50 (by decide) ?_
        refine t_cVi (n := 1) (C := RX13) (T := TX13) (N := 37) (As := [.int 1]) (rest := []) X hT (km88_X13_refused l G tag L F hT.2.2.2 p0 1 m0 g0) m0 g0 rfl rfl qw_484 qw_485 qw_486 qw_5 qw_487 ⟨rfl, by decide +kernel, by decide +kernel, by decide +kernel⟩ ⟨Nat.le_of_ble_eq_true rfl, Nat.le_of_ble_eq_true rfl⟩ hl rfl rfl (Nat.le_of_ble_eq_true rfl) dX13_order_51 ⟨Nat.le_of_ble_eq_true rfl, Nat.le_of_ble_eq_true rfl⟩ (fun z73407 F H locs hT hz73407 => ?_)
        obtain ⟨hz73407, yz73407⟩ := hz73407
        have pf0 := (yz73407.1 _ 3 (Or.inr (by decide)) (Or.inr (by decide))).trans pf0
        have v73392 := (yz73407.1 _ 0 (Or.inr (by decide)) (Or.inr (by decide))).trans v73392
        have qz73401 := (yz73407.1 _ 29 (Or.inr (by decide)) (Or.inr (by decide))).trans qz73401
        have hv73403 := (yz73407.1 _ 36 (Or.inr (by decide)) (Or.inr (by decide))).trans hv73403
        have hfr : (∀ b j : Nat, (tag b ≠ 46 ∨ j ≠ 0) → (tag b ≠ 46 ∨ j ≠ 1) → (tag b ≠ 46 ∨ j ≠ 2) → (tag b ≠ 46 ∨ j ≠ 36) → fld F b j = fld Fo b j) ∧ (∀ b j : Nat, tag b ≠ 33 → tag b ≠ 43 → elm F b j = elm Fo b j) := ⟨fun b j n46_0 n46_1 n46_2 n46_36 => (yz73407.1 b j n46_1 n46_2).trans (hfr.1 b j n46_0 n46_1 n46_2 n46_36), fun b j a33 a43 => (yz73407.2 b j ).trans (hfr.2 b j a33 a43)⟩
        exact t_iret hQ X hT (⟨rg_all _, hfr⟩) (Nat.le_of_ble_eq_true rfl) (Nat.le_of_ble_eq_true rfl) dX13_order_54
      · have w73408 := cv_nle (rfl : z73404.toInt = z73404.toInt) (rfl : p1.toInt = p1.toInt) c73405
        refine lv_aload_n hx hb dX13_order_36 rfl (lv_at hl 0 rfl) ?_
        refine lv_aload_n hx hb dX13_order_37 rfl (lv_at hl 0 rfl) ?_
        refine t_get (C := RX13) (T := TX13) (N := 37) X hT m0 g0 rfl rfl 35 (by decide) qw_126 inlX13 rfl dX13_order_38 (fun v73409 hv73409 ov73409 => ?_)
        obtain ⟨b73410, rfl, mb73410, gb73410⟩ := okV_r ov73409
        have gb73410 : tag b73410 = 33 := tg_of gb73410
        refine lv_iload_n hx hb dX13_order_41 rfl (lv_at hl 2 rfl) ?_
        refine t_ild X hT mb73410 gb73410 rfl (by omega) dX13_order_42 (fun z73411 vz73411 rz73411 => ?_)
        have rz73411 : (-2147483648) ≤ z73411.toInt ∧ z73411.toInt ≤ 2147483647 := rz73411
        refine t_cVi (n := 1) (C := RX13) (T := TX13) (N := 37) (As := [.int z73411]) (rest := []) X hT (km93_X13_good l G tag L F hT.2.2.2 p0 z73411 m0 g0) m0 g0 rfl rfl qw_687 qw_688 qw_689 qw_5 qw_690 ⟨rfl, by decide +kernel, by decide +kernel, by decide +kernel⟩ ⟨Nat.le_of_ble_eq_true rfl, Nat.le_of_ble_eq_true rfl⟩ hl rfl rfl (Nat.le_of_ble_eq_true rfl) dX13_order_43 ⟨Nat.le_of_ble_eq_true rfl, Nat.le_of_ble_eq_true rfl⟩ (fun z73412 F H locs hT hz73412 => ?_)
        obtain ⟨hz73412, yz73412⟩ := hz73412
        have pf0 := (yz73412.1 _ 3 (Or.inr (by decide)) (Or.inr (by decide))).trans pf0
        have v73392 := (yz73412.1 _ 0 (Or.inr (by decide)) (Or.inr (by decide))).trans v73392
        have qz73401 := (yz73412.1 _ 29 (Or.inr (by decide)) (Or.inr (by decide))).trans qz73401
        have hv73403 := (yz73412.1 _ 36 (Or.inr (by decide)) (Or.inr (by decide))).trans hv73403
        have hv73409 := (yz73412.1 _ 35 (Or.inr (by decide)) (Or.inr (by decide))).trans hv73409
        have vz73411 := (yz73412.2 _ _ ).trans vz73411
        have hfr : (∀ b j : Nat, (tag b ≠ 46 ∨ j ≠ 0) → (tag b ≠ 46 ∨ j ≠ 1) → (tag b ≠ 46 ∨ j ≠ 2) → (tag b ≠ 46 ∨ j ≠ 36) → fld F b j = fld Fo b j) ∧ (∀ b j : Nat, tag b ≠ 33 → tag b ≠ 43 → elm F b j = elm Fo b j) := ⟨fun b j n46_0 n46_1 n46_2 n46_36 => (yz73412.1 b j n46_1 n46_2).trans (hfr.1 b j n46_0 n46_1 n46_2 n46_36), fun b j a33 a43 => (yz73412.2 b j ).trans (hfr.2 b j a33 a43)⟩
        refine lv_goto (tgt := 54) hx hb dX13_order_46 (by decide) ?_
        exact t_iret hQ X hT (⟨rg_all _, hfr⟩) (Nat.le_of_ble_eq_true rfl) (Nat.le_of_ble_eq_true rfl) dX13_order_54
    · have w73413 := cv_nle (by decide : (0 : Int32).toInt = 0) (rfl : p1.toInt = p1.toInt) c73399
      refine lv_aload_n hx hb dX13_order_17 rfl (lv_at hl 0 rfl) ?_
      refine lv_iconst (v := 1) hx hb dX13_order_18 (by decide) ?_
      refine t_cVi (n := 1) (C := RX13) (T := TX13) (N := 37) (As := [.int 1]) (rest := []) X hT (km88_X13_refused l G tag L F hT.2.2.2 p0 1 m0 g0) m0 g0 rfl rfl qw_484 qw_485 qw_486 qw_5 qw_487 ⟨rfl, by decide +kernel, by decide +kernel, by decide +kernel⟩ ⟨Nat.le_of_ble_eq_true rfl, Nat.le_of_ble_eq_true rfl⟩ hl rfl rfl (Nat.le_of_ble_eq_true rfl) dX13_order_19 ⟨Nat.le_of_ble_eq_true rfl, Nat.le_of_ble_eq_true rfl⟩ (fun z73414 F H locs hT hz73414 => ?_)
      obtain ⟨hz73414, yz73414⟩ := hz73414
      have pf0 := (yz73414.1 _ 3 (Or.inr (by decide)) (Or.inr (by decide))).trans pf0
      have v73392 := (yz73414.1 _ 0 (Or.inr (by decide)) (Or.inr (by decide))).trans v73392
      have hfr : (∀ b j : Nat, (tag b ≠ 46 ∨ j ≠ 0) → (tag b ≠ 46 ∨ j ≠ 1) → (tag b ≠ 46 ∨ j ≠ 2) → (tag b ≠ 46 ∨ j ≠ 36) → fld F b j = fld Fo b j) ∧ (∀ b j : Nat, tag b ≠ 33 → tag b ≠ 43 → elm F b j = elm Fo b j) := ⟨fun b j n46_0 n46_1 n46_2 n46_36 => (yz73414.1 b j n46_1 n46_2).trans (hfr.1 b j n46_0 n46_1 n46_2 n46_36), fun b j a33 a43 => (yz73414.2 b j ).trans (hfr.2 b j a33 a43)⟩
      exact t_iret hQ X hT (⟨rg_all _, hfr⟩) (Nat.le_of_ble_eq_true rfl) (Nat.le_of_ble_eq_true rfl) dX13_order_22
set_option maxHeartbeats 4000000 in
set_option maxRecDepth 100000 in
theorem km233_X13_isWall (l : Launch) (G : KG) (tag : Nat → Nat) (L : List Nat) (F : Nat → va_E) (ho : okT G ttC tag L F) (p0 : Nat) (p1 : Int32) (m0 : p0 ∈ L) (g0 : tag p0 = 46) (pf0 : fld F p0 3 = .null) : TMi l yX13_isWall cX13_isWall 2 (some .boolean) { frames := 0, cells := 0, slots := 0, locals := 0 } G ttC tag L F [.ref p0, .int p1] (fun r F1 => F1 = F ∧ (0 ≤ r.toInt ∧ r.toInt ≤ 0)) := by
  refine t_bodyi (y := yX13_isWall) (cd := cX13_isWall) (mL := 2) (rt := (some .boolean)) (rm := { frames := 0, cells := 0, slots := 0, locals := 0 }) (av := [.ref p0, .int p1]) (by decide) (Nat.le_of_ble_eq_true rfl) ho ?_
  intro p e s m args below meth c ls A Q hQ X hT hl
  have hx := X.1.1
  have hb := X.1.2.1
  have hl : lv_has ls 2 [(0, .ref p0), (1, .int p1)] := hl
  have rp1 := rg_all p1
  refine lv_aload_n hx hb dX13_isWall_0 rfl (lv_at hl 0 rfl) ?_
  refine t_get (C := RX13) (T := TX13) (N := 37) X hT m0 g0 rfl rfl 3 (by decide) qw_481 inlX13 rfl dX13_isWall_1 (fun v73427 hv73427 ov73427 => ?_)
  obtain rfl : v73427 = .null := hv73427.symm.trans pf0
  refine lv_ifnullN (tgt := 26) hx hb dX13_isWall_4 (by decide) ?_
  refine lv_iconst (v := 0) hx hb dX13_isWall_26 (by decide) ?_
  have k73428 : (0 : Int32).toInt = 0 := by decide
  exact t_zret hQ X hT (by decide) (⟨rfl, (by decide)⟩) (Nat.le_of_ble_eq_true rfl) (Nat.le_of_ble_eq_true rfl) dX13_isWall_27
set_option maxHeartbeats 4000000 in
set_option maxRecDepth 100000 in
theorem km234_X13_order (l : Launch) (G : KG) (tag : Nat → Nat) (L : List Nat) (Fo : Nat → va_E) (ho : okT G ttC tag L Fo) (p0 : Nat) (p1 : Int32) (p2 : Int32) (m0 : p0 ∈ L) (g0 : tag p0 = 46) (pf0 : fld Fo p0 3 = .null) : TMi l yX13_order cX13_order 3 (some .int) { frames := 4, cells := 0, slots := 0, locals := 91 } G ttC tag L Fo [.ref p0, .int p1, .int p2] (fun r F1 => ((-2147483648) ≤ r.toInt ∧ r.toInt ≤ 2147483647) ∧ ((∀ b j : Nat, (tag b ≠ 46 ∨ j ≠ 0) → (tag b ≠ 46 ∨ j ≠ 1) → (tag b ≠ 46 ∨ j ≠ 2) → (tag b ≠ 46 ∨ j ≠ 36) → fld F1 b j = fld Fo b j) ∧ (∀ b j : Nat, tag b ≠ 33 → tag b ≠ 43 → elm F1 b j = elm Fo b j))) := by
  refine t_bodyi (y := yX13_order) (cd := cX13_order) (mL := 3) (rt := (some .int)) (rm := { frames := 4, cells := 0, slots := 0, locals := 91 }) (av := [.ref p0, .int p1, .int p2]) (by decide) (Nat.le_of_ble_eq_true rfl) ho ?_
  intro p e s m args below meth c ls A Q hQ X hT hl
  have hx := X.1.1
  have hb := X.1.2.1
  have hl : lv_has ls 3 [(0, .ref p0), (1, .int p1), (2, .int p2)] := hl
  have rp1 := rg_all p1
  have rp2 := rg_all p2
  obtain ⟨F, hFo⟩ : ∃ F : Nat → va_E, F = Fo := ⟨_, rfl⟩
  rw [← hFo] at hT pf0
  have hfr : (∀ b j : Nat, (tag b ≠ 46 ∨ j ≠ 0) → (tag b ≠ 46 ∨ j ≠ 1) → (tag b ≠ 46 ∨ j ≠ 2) → (tag b ≠ 46 ∨ j ≠ 36) → fld F b j = fld Fo b j) ∧ (∀ b j : Nat, tag b ≠ 33 → tag b ≠ 43 → elm F b j = elm Fo b j) := by
    rw [hFo]
    exact ⟨by intros; rfl, by intros; rfl⟩
  refine lv_aload_n hx hb dX13_order_0 rfl (lv_at hl 0 rfl) ?_
  refine lv_iconst (v := 0) hx hb dX13_order_1 (by decide) ?_
  refine t_put (C := RX13) (T := TX13) (N := 37) (v := .int 0) X hT m0 g0 rfl tyX13 tyX13_ok nmX13 rfl 0 (by decide) qw_140 inlX13 rfl (by first | rfl | decide) (by first | rfl | decide) rfl (⟨_, rfl, (show (-2147483648) ≤ (0 : Int32).toInt from (by decide)), (show (0 : Int32).toInt ≤ 2147483647 from (by decide))⟩) dX13_order_2 (fun F H locs hT v73494 h1v73494 h2v73494 => ?_)
  have pf0 := (h1v73494 _ _ (Or.inr (by decide))).trans pf0
  have hfr : (∀ b j : Nat, (tag b ≠ 46 ∨ j ≠ 0) → (tag b ≠ 46 ∨ j ≠ 1) → (tag b ≠ 46 ∨ j ≠ 2) → (tag b ≠ 46 ∨ j ≠ 36) → fld F b j = fld Fo b j) ∧ (∀ b j : Nat, tag b ≠ 33 → tag b ≠ 43 → elm F b j = elm Fo b j) := ⟨fun b j n46_0 n46_1 n46_2 n46_36 => (h1v73494 b j (fr_ne g0 n46_0)).trans (hfr.1 b j n46_0 n46_1 n46_2 n46_36), fun b j a33 a43 => (h2v73494 b j).trans (hfr.2 b j a33 a43)⟩
  refine lv_aload_n hx hb dX13_order_5 rfl (lv_at hl 0 rfl) ?_
  refine lv_iload_n hx hb dX13_order_6 rfl (lv_at hl 2 rfl) ?_
  refine t_cVi (n := 1) (C := RX13) (T := TX13) (N := 37) (As := [.int p2]) (rest := []) X hT (km233_X13_isWall l G tag L F hT.2.2.2 p0 p2 m0 g0 pf0) m0 g0 rfl rfl qw_1392 qw_1393 qw_1394 qw_5 qw_1395 ⟨rfl, by decide +kernel, by decide +kernel, by decide +kernel⟩ ⟨Nat.le_of_ble_eq_true rfl, Nat.le_of_ble_eq_true rfl⟩ hl rfl rfl (Nat.le_of_ble_eq_true rfl) dX13_order_7 ⟨Nat.le_of_ble_eq_true rfl, Nat.le_of_ble_eq_true rfl⟩ (fun z73495 F9 H locs hT hz73495 => ?_)
  obtain ⟨fz73495, hz73495⟩ := hz73495
  rw [fz73495] at hT
  refine lv_if_eq (tgt := 17) hx hb dX13_order_10 (by decide) (fun c73496 => ?_) (fun c73496 => ?_)
  · have w73497 := cv_eq (rfl : z73495.toInt = z73495.toInt) (by decide : (0 : Int32).toInt = 0) c73496
    refine lv_aload_n hx hb dX13_order_17 rfl (lv_at hl 0 rfl) ?_
    refine lv_iconst (v := 1) hx hb dX13_order_18 (by decide) ?_
    refine t_cVi (n := 1) (C := RX13) (T := TX13) (N := 37) (As := [.int 1]) (rest := []) X hT (km88_X13_refused l G tag L F hT.2.2.2 p0 1 m0 g0) m0 g0 rfl rfl qw_484 qw_485 qw_486 qw_5 qw_487 ⟨rfl, by decide +kernel, by decide +kernel, by decide +kernel⟩ ⟨Nat.le_of_ble_eq_true rfl, Nat.le_of_ble_eq_true rfl⟩ hl rfl rfl (Nat.le_of_ble_eq_true rfl) dX13_order_19 ⟨Nat.le_of_ble_eq_true rfl, Nat.le_of_ble_eq_true rfl⟩ (fun z73498 F H locs hT hz73498 => ?_)
    obtain ⟨hz73498, yz73498⟩ := hz73498
    have pf0 := (yz73498.1 _ 3 (Or.inr (by decide)) (Or.inr (by decide))).trans pf0
    have v73494 := (yz73498.1 _ 0 (Or.inr (by decide)) (Or.inr (by decide))).trans v73494
    have hfr : (∀ b j : Nat, (tag b ≠ 46 ∨ j ≠ 0) → (tag b ≠ 46 ∨ j ≠ 1) → (tag b ≠ 46 ∨ j ≠ 2) → (tag b ≠ 46 ∨ j ≠ 36) → fld F b j = fld Fo b j) ∧ (∀ b j : Nat, tag b ≠ 33 → tag b ≠ 43 → elm F b j = elm Fo b j) := ⟨fun b j n46_0 n46_1 n46_2 n46_36 => (yz73498.1 b j n46_1 n46_2).trans (hfr.1 b j n46_0 n46_1 n46_2 n46_36), fun b j a33 a43 => (yz73498.2 b j ).trans (hfr.2 b j a33 a43)⟩
    exact t_iret hQ X hT (⟨rg_all _, hfr⟩) (Nat.le_of_ble_eq_true rfl) (Nat.le_of_ble_eq_true rfl) dX13_order_22
  · have w73499 := cv_ne (rfl : z73495.toInt = z73495.toInt) (by decide : (0 : Int32).toInt = 0) c73496
    exfalso
    omega
theorem kp_X13_order (l : Launch) (G : KG) (tag : Nat → Nat) (L : List Nat) (Fo : Nat → va_E) (ho : okT G ttC tag L Fo) (p0 : Nat) (p1 : Int32) (p2 : Int32) (m0 : p0 ∈ L) (g0 : tag p0 = 46) : TMi l yX13_order cX13_order 3 (some .int) { frames := 4, cells := 0, slots := 0, locals := 91 } G ttC tag L Fo [.ref p0, .int p1, .int p2] (fun r F1 => ((-2147483648) ≤ r.toInt ∧ r.toInt ≤ 2147483647) ∧ ((∀ b j : Nat, (tag b ≠ 46 ∨ j ≠ 0) → (tag b ≠ 46 ∨ j ≠ 1) → (tag b ≠ 46 ∨ j ≠ 2) → (tag b ≠ 46 ∨ j ≠ 36) → fld F1 b j = fld Fo b j) ∧ (∀ b j : Nat, tag b ≠ 33 → tag b ≠ 43 → elm F1 b j = elm Fo b j))) := by
  rcases t_fldn ho m0 g0 rfl 3 rfl with h9 | ⟨b9, h9, m9, t9⟩
  · exact km234_X13_order l G tag L Fo ho p0 p1 p2  m0 g0 h9 
  · exact km232_X13_order l G tag L Fo ho p0 p1 p2 b9  m0 g0 m9 (tg_of t9) h9 
set_option maxHeartbeats 4000000 in
set_option maxRecDepth 100000 in
theorem km236_X13_soonest (l : Launch) (G : KG) (tag : Nat → Nat) (L : List Nat) (Fo : Nat → va_E) (ho : okT G ttC tag L Fo) (p0 : Nat) (p1 : Int32) (x0 : Nat) (m0 : p0 ∈ L) (g0 : tag p0 = 46) (mx0 : x0 ∈ L) (gx0 : tag x0 = 45) (pf0 : fld Fo p0 3 = .ref x0) : TMi l yX13_soonest cX13_soonest 2 (some .int) { frames := 4, cells := 0, slots := 0, locals := 91 } G ttC tag L Fo [.ref p0, .int p1] (fun r F1 => ((-2147483648) ≤ r.toInt ∧ r.toInt ≤ 2147483647) ∧ ((∀ b j : Nat, (tag b ≠ 46 ∨ j ≠ 0) → (tag b ≠ 46 ∨ j ≠ 1) → (tag b ≠ 46 ∨ j ≠ 2) → (tag b ≠ 46 ∨ j ≠ 36) → fld F1 b j = fld Fo b j) ∧ (∀ b j : Nat, tag b ≠ 33 → tag b ≠ 43 → elm F1 b j = elm Fo b j))) := by
  refine t_bodyi (y := yX13_soonest) (cd := cX13_soonest) (mL := 2) (rt := (some .int)) (rm := { frames := 4, cells := 0, slots := 0, locals := 91 }) (av := [.ref p0, .int p1]) (by decide) (Nat.le_of_ble_eq_true rfl) ho ?_
  intro p e s m args below meth c ls A Q hQ X hT hl
  have hx := X.1.1
  have hb := X.1.2.1
  have hl : lv_has ls 2 [(0, .ref p0), (1, .int p1)] := hl
  have rp1 := rg_all p1
  obtain ⟨F, hFo⟩ : ∃ F : Nat → va_E, F = Fo := ⟨_, rfl⟩
  rw [← hFo] at hT pf0
  have hfr : (∀ b j : Nat, (tag b ≠ 46 ∨ j ≠ 0) → (tag b ≠ 46 ∨ j ≠ 1) → (tag b ≠ 46 ∨ j ≠ 2) → (tag b ≠ 46 ∨ j ≠ 36) → fld F b j = fld Fo b j) ∧ (∀ b j : Nat, tag b ≠ 33 → tag b ≠ 43 → elm F b j = elm Fo b j) := by
    rw [hFo]
    exact ⟨by intros; rfl, by intros; rfl⟩
  refine lv_aload_n hx hb dX13_soonest_0 rfl (lv_at hl 0 rfl) ?_
  refine lv_iconst (v := 0) hx hb dX13_soonest_1 (by decide) ?_
  refine t_put (C := RX13) (T := TX13) (N := 37) (v := .int 0) X hT m0 g0 rfl tyX13 tyX13_ok nmX13 rfl 0 (by decide) qw_140 inlX13 rfl (by first | rfl | decide) (by first | rfl | decide) rfl (⟨_, rfl, (show (-2147483648) ≤ (0 : Int32).toInt from (by decide)), (show (0 : Int32).toInt ≤ 2147483647 from (by decide))⟩) dX13_soonest_2 (fun F H locs hT v73643 h1v73643 h2v73643 => ?_)
  have pf0 := (h1v73643 _ _ (Or.inr (by decide))).trans pf0
  have hfr : (∀ b j : Nat, (tag b ≠ 46 ∨ j ≠ 0) → (tag b ≠ 46 ∨ j ≠ 1) → (tag b ≠ 46 ∨ j ≠ 2) → (tag b ≠ 46 ∨ j ≠ 36) → fld F b j = fld Fo b j) ∧ (∀ b j : Nat, tag b ≠ 33 → tag b ≠ 43 → elm F b j = elm Fo b j) := ⟨fun b j n46_0 n46_1 n46_2 n46_36 => (h1v73643 b j (fr_ne g0 n46_0)).trans (hfr.1 b j n46_0 n46_1 n46_2 n46_36), fun b j a33 a43 => (h2v73643 b j).trans (hfr.2 b j a33 a43)⟩
  refine lv_aload_n hx hb dX13_soonest_5 rfl (lv_at hl 0 rfl) ?_
  refine lv_iload_n hx hb dX13_soonest_6 rfl (lv_at hl 1 rfl) ?_
  refine t_cVi (n := 1) (C := RX13) (T := TX13) (N := 37) (As := [.int p1]) (rest := []) X hT (km231_X13_isWall l G tag L F hT.2.2.2 p0 p1 x0 m0 g0 mx0 gx0 pf0) m0 g0 rfl rfl qw_1392 qw_1393 qw_1394 qw_5 qw_1395 ⟨rfl, by decide +kernel, by decide +kernel, by decide +kernel⟩ ⟨Nat.le_of_ble_eq_true rfl, Nat.le_of_ble_eq_true rfl⟩ hl rfl rfl (Nat.le_of_ble_eq_true rfl) dX13_soonest_7 ⟨Nat.le_of_ble_eq_true rfl, Nat.le_of_ble_eq_true rfl⟩ (fun z73644 F9 H locs hT hz73644 => ?_)
  obtain ⟨fz73644, hz73644⟩ := hz73644
  rw [fz73644] at hT
  obtain ⟨hz73644, iz73644⟩ := hz73644
  refine lv_if_ne (tgt := 19) hx hb dX13_soonest_10 (by decide) (fun c73645 => ?_) (fun c73645 => ?_)
  · have w73646 := cv_ne (rfl : z73644.toInt = z73644.toInt) (by decide : (0 : Int32).toInt = 0) c73645
    have w73647 := (fun h => (iz73644 h)) (by omega)
    refine lv_aload_n hx hb dX13_soonest_19 rfl (lv_at hl 0 rfl) ?_
    refine lv_iconst (v := (-1)) hx hb dX13_soonest_20 (by decide) ?_
    obtain ⟨z73648, qz73648, mz73648, gz73648⟩ := t_fldr hT m0 g0 rfl 29 rfl
    have gz73648 : tag z73648 = 43 := tg_of gz73648
    refine t_cVv (n := 1) (C := RX13) (T := TX13) (N := 37) (As := [.int (-1)]) (rest := []) X hT (km227_X13_findsOrders l G tag L F hT.2.2.2 p0 (-1) x0 z73648 m0 g0 mx0 gx0 pf0 mz73648 gz73648 qz73648) m0 g0 rfl rfl qw_1362 qw_1363 qw_1364 qw_5 qw_1365 ⟨rfl, by decide +kernel, by decide +kernel, by decide +kernel⟩ ⟨Nat.le_of_ble_eq_true rfl, Nat.le_of_ble_eq_true rfl⟩ hl rfl rfl (Nat.le_of_ble_eq_true rfl) dX13_soonest_21 ⟨Nat.le_of_ble_eq_true rfl, Nat.le_of_ble_eq_true rfl⟩ (fun F H locs hT hz73649 => ?_)
    have yz73649 := hz73649
    have pf0 := (yz73649.1 _ 3 (Or.inr (by decide))).trans pf0
    have v73643 := (yz73649.1 _ 0 (Or.inr (by decide))).trans v73643
    have qz73648 := (yz73649.1 _ 29 (Or.inr (by decide))).trans qz73648
    have hfr : (∀ b j : Nat, (tag b ≠ 46 ∨ j ≠ 0) → (tag b ≠ 46 ∨ j ≠ 1) → (tag b ≠ 46 ∨ j ≠ 2) → (tag b ≠ 46 ∨ j ≠ 36) → fld F b j = fld Fo b j) ∧ (∀ b j : Nat, tag b ≠ 33 → tag b ≠ 43 → elm F b j = elm Fo b j) := ⟨fun b j n46_0 n46_1 n46_2 n46_36 => (yz73649.1 b j n46_36).trans (hfr.1 b j n46_0 n46_1 n46_2 n46_36), fun b j a33 a43 => (yz73649.2 b j a33 a43).trans (hfr.2 b j a33 a43)⟩
    refine lv_aload_n hx hb dX13_soonest_24 rfl (lv_at hl 0 rfl) ?_
    refine lv_aload_n hx hb dX13_soonest_25 rfl (lv_at hl 0 rfl) ?_
    refine t_get (C := RX13) (T := TX13) (N := 37) X hT m0 g0 rfl rfl 30 (by decide) qw_121 inlX13 rfl dX13_soonest_26 (fun v73650 hv73650 ov73650 => ?_)
    obtain ⟨b73651, rfl, mb73651, gb73651⟩ := okV_r ov73650
    have gb73651 : tag b73651 = 33 := tg_of gb73651
    refine lv_iload_n hx hb dX13_soonest_29 rfl (lv_at hl 1 rfl) ?_
    refine t_ild X hT mb73651 gb73651 rfl (by omega) dX13_soonest_30 (fun z73652 vz73652 rz73652 => ?_)
    have rz73652 : (-2147483648) ≤ z73652.toInt ∧ z73652.toInt ≤ 2147483647 := rz73652
    refine t_cVi (n := 1) (C := RX13) (T := TX13) (N := 37) (As := [.int z73652]) (rest := []) X hT (km93_X13_good l G tag L F hT.2.2.2 p0 z73652 m0 g0) m0 g0 rfl rfl qw_687 qw_688 qw_689 qw_5 qw_690 ⟨rfl, by decide +kernel, by decide +kernel, by decide +kernel⟩ ⟨Nat.le_of_ble_eq_true rfl, Nat.le_of_ble_eq_true rfl⟩ hl rfl rfl (Nat.le_of_ble_eq_true rfl) dX13_soonest_31 ⟨Nat.le_of_ble_eq_true rfl, Nat.le_of_ble_eq_true rfl⟩ (fun z73653 F H locs hT hz73653 => ?_)
    obtain ⟨hz73653, yz73653⟩ := hz73653
    have pf0 := (yz73653.1 _ 3 (Or.inr (by decide)) (Or.inr (by decide))).trans pf0
    have v73643 := (yz73653.1 _ 0 (Or.inr (by decide)) (Or.inr (by decide))).trans v73643
    have qz73648 := (yz73653.1 _ 29 (Or.inr (by decide)) (Or.inr (by decide))).trans qz73648
    have hv73650 := (yz73653.1 _ 30 (Or.inr (by decide)) (Or.inr (by decide))).trans hv73650
    have vz73652 := (yz73653.2 _ _ ).trans vz73652
    have hfr : (∀ b j : Nat, (tag b ≠ 46 ∨ j ≠ 0) → (tag b ≠ 46 ∨ j ≠ 1) → (tag b ≠ 46 ∨ j ≠ 2) → (tag b ≠ 46 ∨ j ≠ 36) → fld F b j = fld Fo b j) ∧ (∀ b j : Nat, tag b ≠ 33 → tag b ≠ 43 → elm F b j = elm Fo b j) := ⟨fun b j n46_0 n46_1 n46_2 n46_36 => (yz73653.1 b j n46_1 n46_2).trans (hfr.1 b j n46_0 n46_1 n46_2 n46_36), fun b j a33 a43 => (yz73653.2 b j ).trans (hfr.2 b j a33 a43)⟩
    exact t_iret hQ X hT (⟨rg_all _, hfr⟩) (Nat.le_of_ble_eq_true rfl) (Nat.le_of_ble_eq_true rfl) dX13_soonest_34
  · have w73654 := cv_eq (rfl : z73644.toInt = z73644.toInt) (by decide : (0 : Int32).toInt = 0) c73645
    refine lv_aload_n hx hb dX13_soonest_13 rfl (lv_at hl 0 rfl) ?_
    refine lv_iconst (v := 1) hx hb dX13_soonest_14 (by decide) ?_
    refine t_cVi (n := 1) (C := RX13) (T := TX13) (N := 37) (As := [.int 1]) (rest := []) X hT (km88_X13_refused l G tag L F hT.2.2.2 p0 1 m0 g0) m0 g0 rfl rfl qw_484 qw_485 qw_486 qw_5 qw_487 ⟨rfl, by decide +kernel, by decide +kernel, by decide +kernel⟩ ⟨Nat.le_of_ble_eq_true rfl, Nat.le_of_ble_eq_true rfl⟩ hl rfl rfl (Nat.le_of_ble_eq_true rfl) dX13_soonest_15 ⟨Nat.le_of_ble_eq_true rfl, Nat.le_of_ble_eq_true rfl⟩ (fun z73655 F H locs hT hz73655 => ?_)
    obtain ⟨hz73655, yz73655⟩ := hz73655
    have pf0 := (yz73655.1 _ 3 (Or.inr (by decide)) (Or.inr (by decide))).trans pf0
    have v73643 := (yz73655.1 _ 0 (Or.inr (by decide)) (Or.inr (by decide))).trans v73643
    have hfr : (∀ b j : Nat, (tag b ≠ 46 ∨ j ≠ 0) → (tag b ≠ 46 ∨ j ≠ 1) → (tag b ≠ 46 ∨ j ≠ 2) → (tag b ≠ 46 ∨ j ≠ 36) → fld F b j = fld Fo b j) ∧ (∀ b j : Nat, tag b ≠ 33 → tag b ≠ 43 → elm F b j = elm Fo b j) := ⟨fun b j n46_0 n46_1 n46_2 n46_36 => (yz73655.1 b j n46_1 n46_2).trans (hfr.1 b j n46_0 n46_1 n46_2 n46_36), fun b j a33 a43 => (yz73655.2 b j ).trans (hfr.2 b j a33 a43)⟩
    exact t_iret hQ X hT (⟨rg_all _, hfr⟩) (Nat.le_of_ble_eq_true rfl) (Nat.le_of_ble_eq_true rfl) dX13_soonest_18
set_option maxHeartbeats 4000000 in
set_option maxRecDepth 100000 in
theorem km237_X13_soonest (l : Launch) (G : KG) (tag : Nat → Nat) (L : List Nat) (Fo : Nat → va_E) (ho : okT G ttC tag L Fo) (p0 : Nat) (p1 : Int32) (m0 : p0 ∈ L) (g0 : tag p0 = 46) (pf0 : fld Fo p0 3 = .null) : TMi l yX13_soonest cX13_soonest 2 (some .int) { frames := 4, cells := 0, slots := 0, locals := 91 } G ttC tag L Fo [.ref p0, .int p1] (fun r F1 => ((-2147483648) ≤ r.toInt ∧ r.toInt ≤ 2147483647) ∧ ((∀ b j : Nat, (tag b ≠ 46 ∨ j ≠ 0) → (tag b ≠ 46 ∨ j ≠ 1) → (tag b ≠ 46 ∨ j ≠ 2) → (tag b ≠ 46 ∨ j ≠ 36) → fld F1 b j = fld Fo b j) ∧ (∀ b j : Nat, tag b ≠ 33 → tag b ≠ 43 → elm F1 b j = elm Fo b j))) := by
  refine t_bodyi (y := yX13_soonest) (cd := cX13_soonest) (mL := 2) (rt := (some .int)) (rm := { frames := 4, cells := 0, slots := 0, locals := 91 }) (av := [.ref p0, .int p1]) (by decide) (Nat.le_of_ble_eq_true rfl) ho ?_
  intro p e s m args below meth c ls A Q hQ X hT hl
  have hx := X.1.1
  have hb := X.1.2.1
  have hl : lv_has ls 2 [(0, .ref p0), (1, .int p1)] := hl
  have rp1 := rg_all p1
  obtain ⟨F, hFo⟩ : ∃ F : Nat → va_E, F = Fo := ⟨_, rfl⟩
  rw [← hFo] at hT pf0
  have hfr : (∀ b j : Nat, (tag b ≠ 46 ∨ j ≠ 0) → (tag b ≠ 46 ∨ j ≠ 1) → (tag b ≠ 46 ∨ j ≠ 2) → (tag b ≠ 46 ∨ j ≠ 36) → fld F b j = fld Fo b j) ∧ (∀ b j : Nat, tag b ≠ 33 → tag b ≠ 43 → elm F b j = elm Fo b j) := by
    rw [hFo]
    exact ⟨by intros; rfl, by intros; rfl⟩
  refine lv_aload_n hx hb dX13_soonest_0 rfl (lv_at hl 0 rfl) ?_
  refine lv_iconst (v := 0) hx hb dX13_soonest_1 (by decide) ?_
  refine t_put (C := RX13) (T := TX13) (N := 37) (v := .int 0) X hT m0 g0 rfl tyX13 tyX13_ok nmX13 rfl 0 (by decide) qw_140 inlX13 rfl (by first | rfl | decide) (by first | rfl | decide) rfl (⟨_, rfl, (show (-2147483648) ≤ (0 : Int32).toInt from (by decide)), (show (0 : Int32).toInt ≤ 2147483647 from (by decide))⟩) dX13_soonest_2 (fun F H locs hT v73722 h1v73722 h2v73722 => ?_)
  have pf0 := (h1v73722 _ _ (Or.inr (by decide))).trans pf0
  have hfr : (∀ b j : Nat, (tag b ≠ 46 ∨ j ≠ 0) → (tag b ≠ 46 ∨ j ≠ 1) → (tag b ≠ 46 ∨ j ≠ 2) → (tag b ≠ 46 ∨ j ≠ 36) → fld F b j = fld Fo b j) ∧ (∀ b j : Nat, tag b ≠ 33 → tag b ≠ 43 → elm F b j = elm Fo b j) := ⟨fun b j n46_0 n46_1 n46_2 n46_36 => (h1v73722 b j (fr_ne g0 n46_0)).trans (hfr.1 b j n46_0 n46_1 n46_2 n46_36), fun b j a33 a43 => (h2v73722 b j).trans (hfr.2 b j a33 a43)⟩
  refine lv_aload_n hx hb dX13_soonest_5 rfl (lv_at hl 0 rfl) ?_
  refine lv_iload_n hx hb dX13_soonest_6 rfl (lv_at hl 1 rfl) ?_
  refine t_cVi (n := 1) (C := RX13) (T := TX13) (N := 37) (As := [.int p1]) (rest := []) X hT (km233_X13_isWall l G tag L F hT.2.2.2 p0 p1 m0 g0 pf0) m0 g0 rfl rfl qw_1392 qw_1393 qw_1394 qw_5 qw_1395 ⟨rfl, by decide +kernel, by decide +kernel, by decide +kernel⟩ ⟨Nat.le_of_ble_eq_true rfl, Nat.le_of_ble_eq_true rfl⟩ hl rfl rfl (Nat.le_of_ble_eq_true rfl) dX13_soonest_7 ⟨Nat.le_of_ble_eq_true rfl, Nat.le_of_ble_eq_true rfl⟩ (fun z73723 F9 H locs hT hz73723 => ?_)
  obtain ⟨fz73723, hz73723⟩ := hz73723
  rw [fz73723] at hT
  refine lv_if_ne (tgt := 19) hx hb dX13_soonest_10 (by decide) (fun c73724 => ?_) (fun c73724 => ?_)
  · have w73725 := cv_ne (rfl : z73723.toInt = z73723.toInt) (by decide : (0 : Int32).toInt = 0) c73724
    exfalso
    omega
  · have w73726 := cv_eq (rfl : z73723.toInt = z73723.toInt) (by decide : (0 : Int32).toInt = 0) c73724
    refine lv_aload_n hx hb dX13_soonest_13 rfl (lv_at hl 0 rfl) ?_
    refine lv_iconst (v := 1) hx hb dX13_soonest_14 (by decide) ?_
    refine t_cVi (n := 1) (C := RX13) (T := TX13) (N := 37) (As := [.int 1]) (rest := []) X hT (km88_X13_refused l G tag L F hT.2.2.2 p0 1 m0 g0) m0 g0 rfl rfl qw_484 qw_485 qw_486 qw_5 qw_487 ⟨rfl, by decide +kernel, by decide +kernel, by decide +kernel⟩ ⟨Nat.le_of_ble_eq_true rfl, Nat.le_of_ble_eq_true rfl⟩ hl rfl rfl (Nat.le_of_ble_eq_true rfl) dX13_soonest_15 ⟨Nat.le_of_ble_eq_true rfl, Nat.le_of_ble_eq_true rfl⟩ (fun z73727 F H locs hT hz73727 => ?_)
    obtain ⟨hz73727, yz73727⟩ := hz73727
    have pf0 := (yz73727.1 _ 3 (Or.inr (by decide)) (Or.inr (by decide))).trans pf0
    have v73722 := (yz73727.1 _ 0 (Or.inr (by decide)) (Or.inr (by decide))).trans v73722
    have hfr : (∀ b j : Nat, (tag b ≠ 46 ∨ j ≠ 0) → (tag b ≠ 46 ∨ j ≠ 1) → (tag b ≠ 46 ∨ j ≠ 2) → (tag b ≠ 46 ∨ j ≠ 36) → fld F b j = fld Fo b j) ∧ (∀ b j : Nat, tag b ≠ 33 → tag b ≠ 43 → elm F b j = elm Fo b j) := ⟨fun b j n46_0 n46_1 n46_2 n46_36 => (yz73727.1 b j n46_1 n46_2).trans (hfr.1 b j n46_0 n46_1 n46_2 n46_36), fun b j a33 a43 => (yz73727.2 b j ).trans (hfr.2 b j a33 a43)⟩
    exact t_iret hQ X hT (⟨rg_all _, hfr⟩) (Nat.le_of_ble_eq_true rfl) (Nat.le_of_ble_eq_true rfl) dX13_soonest_18
theorem kp_X13_soonest (l : Launch) (G : KG) (tag : Nat → Nat) (L : List Nat) (Fo : Nat → va_E) (ho : okT G ttC tag L Fo) (p0 : Nat) (p1 : Int32) (m0 : p0 ∈ L) (g0 : tag p0 = 46) : TMi l yX13_soonest cX13_soonest 2 (some .int) { frames := 4, cells := 0, slots := 0, locals := 91 } G ttC tag L Fo [.ref p0, .int p1] (fun r F1 => ((-2147483648) ≤ r.toInt ∧ r.toInt ≤ 2147483647) ∧ ((∀ b j : Nat, (tag b ≠ 46 ∨ j ≠ 0) → (tag b ≠ 46 ∨ j ≠ 1) → (tag b ≠ 46 ∨ j ≠ 2) → (tag b ≠ 46 ∨ j ≠ 36) → fld F1 b j = fld Fo b j) ∧ (∀ b j : Nat, tag b ≠ 33 → tag b ≠ 43 → elm F1 b j = elm Fo b j))) := by
  rcases t_fldn ho m0 g0 rfl 3 rfl with h9 | ⟨b9, h9, m9, t9⟩
  · exact km237_X13_soonest l G tag L Fo ho p0 p1  m0 g0 h9 
  · exact km236_X13_soonest l G tag L Fo ho p0 p1 b9  m0 g0 m9 (tg_of t9) h9 
set_option maxHeartbeats 4000000 in
set_option maxRecDepth 100000 in
theorem km239_X13_latest (l : Launch) (G : KG) (tag : Nat → Nat) (L : List Nat) (Fo : Nat → va_E) (ho : okT G ttC tag L Fo) (p0 : Nat) (p1 : Int32) (x0 : Nat) (m0 : p0 ∈ L) (g0 : tag p0 = 46) (mx0 : x0 ∈ L) (gx0 : tag x0 = 45) (pf0 : fld Fo p0 3 = .ref x0) : TMi l yX13_latest cX13_latest 2 (some .int) { frames := 4, cells := 0, slots := 0, locals := 91 } G ttC tag L Fo [.ref p0, .int p1] (fun r F1 => ((-2147483648) ≤ r.toInt ∧ r.toInt ≤ 2147483647) ∧ ((∀ b j : Nat, (tag b ≠ 46 ∨ j ≠ 0) → (tag b ≠ 46 ∨ j ≠ 1) → (tag b ≠ 46 ∨ j ≠ 2) → (tag b ≠ 46 ∨ j ≠ 36) → fld F1 b j = fld Fo b j) ∧ (∀ b j : Nat, tag b ≠ 33 → tag b ≠ 43 → elm F1 b j = elm Fo b j))) := by
  refine t_bodyi (y := yX13_latest) (cd := cX13_latest) (mL := 2) (rt := (some .int)) (rm := { frames := 4, cells := 0, slots := 0, locals := 91 }) (av := [.ref p0, .int p1]) (by decide) (Nat.le_of_ble_eq_true rfl) ho ?_
  intro p e s m args below meth c ls A Q hQ X hT hl
  have hx := X.1.1
  have hb := X.1.2.1
  have hl : lv_has ls 2 [(0, .ref p0), (1, .int p1)] := hl
  have rp1 := rg_all p1
  obtain ⟨F, hFo⟩ : ∃ F : Nat → va_E, F = Fo := ⟨_, rfl⟩
  rw [← hFo] at hT pf0
  have hfr : (∀ b j : Nat, (tag b ≠ 46 ∨ j ≠ 0) → (tag b ≠ 46 ∨ j ≠ 1) → (tag b ≠ 46 ∨ j ≠ 2) → (tag b ≠ 46 ∨ j ≠ 36) → fld F b j = fld Fo b j) ∧ (∀ b j : Nat, tag b ≠ 33 → tag b ≠ 43 → elm F b j = elm Fo b j) := by
    rw [hFo]
    exact ⟨by intros; rfl, by intros; rfl⟩
  refine lv_aload_n hx hb dX13_latest_0 rfl (lv_at hl 0 rfl) ?_
  refine lv_iconst (v := 0) hx hb dX13_latest_1 (by decide) ?_
  refine t_put (C := RX13) (T := TX13) (N := 37) (v := .int 0) X hT m0 g0 rfl tyX13 tyX13_ok nmX13 rfl 0 (by decide) qw_140 inlX13 rfl (by first | rfl | decide) (by first | rfl | decide) rfl (⟨_, rfl, (show (-2147483648) ≤ (0 : Int32).toInt from (by decide)), (show (0 : Int32).toInt ≤ 2147483647 from (by decide))⟩) dX13_latest_2 (fun F H locs hT v73871 h1v73871 h2v73871 => ?_)
  have pf0 := (h1v73871 _ _ (Or.inr (by decide))).trans pf0
  have hfr : (∀ b j : Nat, (tag b ≠ 46 ∨ j ≠ 0) → (tag b ≠ 46 ∨ j ≠ 1) → (tag b ≠ 46 ∨ j ≠ 2) → (tag b ≠ 46 ∨ j ≠ 36) → fld F b j = fld Fo b j) ∧ (∀ b j : Nat, tag b ≠ 33 → tag b ≠ 43 → elm F b j = elm Fo b j) := ⟨fun b j n46_0 n46_1 n46_2 n46_36 => (h1v73871 b j (fr_ne g0 n46_0)).trans (hfr.1 b j n46_0 n46_1 n46_2 n46_36), fun b j a33 a43 => (h2v73871 b j).trans (hfr.2 b j a33 a43)⟩
  refine lv_aload_n hx hb dX13_latest_5 rfl (lv_at hl 0 rfl) ?_
  refine lv_iload_n hx hb dX13_latest_6 rfl (lv_at hl 1 rfl) ?_
  refine t_cVi (n := 1) (C := RX13) (T := TX13) (N := 37) (As := [.int p1]) (rest := []) X hT (km231_X13_isWall l G tag L F hT.2.2.2 p0 p1 x0 m0 g0 mx0 gx0 pf0) m0 g0 rfl rfl qw_1392 qw_1393 qw_1394 qw_5 qw_1395 ⟨rfl, by decide +kernel, by decide +kernel, by decide +kernel⟩ ⟨Nat.le_of_ble_eq_true rfl, Nat.le_of_ble_eq_true rfl⟩ hl rfl rfl (Nat.le_of_ble_eq_true rfl) dX13_latest_7 ⟨Nat.le_of_ble_eq_true rfl, Nat.le_of_ble_eq_true rfl⟩ (fun z73872 F9 H locs hT hz73872 => ?_)
  obtain ⟨fz73872, hz73872⟩ := hz73872
  rw [fz73872] at hT
  obtain ⟨hz73872, iz73872⟩ := hz73872
  refine lv_if_ne (tgt := 19) hx hb dX13_latest_10 (by decide) (fun c73873 => ?_) (fun c73873 => ?_)
  · have w73874 := cv_ne (rfl : z73872.toInt = z73872.toInt) (by decide : (0 : Int32).toInt = 0) c73873
    have w73875 := (fun h => (iz73872 h)) (by omega)
    refine lv_aload_n hx hb dX13_latest_19 rfl (lv_at hl 0 rfl) ?_
    refine lv_iconst (v := (-1)) hx hb dX13_latest_20 (by decide) ?_
    obtain ⟨z73876, qz73876, mz73876, gz73876⟩ := t_fldr hT m0 g0 rfl 29 rfl
    have gz73876 : tag z73876 = 43 := tg_of gz73876
    refine t_cVv (n := 1) (C := RX13) (T := TX13) (N := 37) (As := [.int (-1)]) (rest := []) X hT (km227_X13_findsOrders l G tag L F hT.2.2.2 p0 (-1) x0 z73876 m0 g0 mx0 gx0 pf0 mz73876 gz73876 qz73876) m0 g0 rfl rfl qw_1362 qw_1363 qw_1364 qw_5 qw_1365 ⟨rfl, by decide +kernel, by decide +kernel, by decide +kernel⟩ ⟨Nat.le_of_ble_eq_true rfl, Nat.le_of_ble_eq_true rfl⟩ hl rfl rfl (Nat.le_of_ble_eq_true rfl) dX13_latest_21 ⟨Nat.le_of_ble_eq_true rfl, Nat.le_of_ble_eq_true rfl⟩ (fun F H locs hT hz73877 => ?_)
    have yz73877 := hz73877
    have pf0 := (yz73877.1 _ 3 (Or.inr (by decide))).trans pf0
    have v73871 := (yz73877.1 _ 0 (Or.inr (by decide))).trans v73871
    have qz73876 := (yz73877.1 _ 29 (Or.inr (by decide))).trans qz73876
    have hfr : (∀ b j : Nat, (tag b ≠ 46 ∨ j ≠ 0) → (tag b ≠ 46 ∨ j ≠ 1) → (tag b ≠ 46 ∨ j ≠ 2) → (tag b ≠ 46 ∨ j ≠ 36) → fld F b j = fld Fo b j) ∧ (∀ b j : Nat, tag b ≠ 33 → tag b ≠ 43 → elm F b j = elm Fo b j) := ⟨fun b j n46_0 n46_1 n46_2 n46_36 => (yz73877.1 b j n46_36).trans (hfr.1 b j n46_0 n46_1 n46_2 n46_36), fun b j a33 a43 => (yz73877.2 b j a33 a43).trans (hfr.2 b j a33 a43)⟩
    refine lv_aload_n hx hb dX13_latest_24 rfl (lv_at hl 0 rfl) ?_
    refine lv_aload_n hx hb dX13_latest_25 rfl (lv_at hl 0 rfl) ?_
    refine t_get (C := RX13) (T := TX13) (N := 37) X hT m0 g0 rfl rfl 31 (by decide) qw_122 inlX13 rfl dX13_latest_26 (fun v73878 hv73878 ov73878 => ?_)
    obtain ⟨b73879, rfl, mb73879, gb73879⟩ := okV_r ov73878
    have gb73879 : tag b73879 = 33 := tg_of gb73879
    refine lv_iload_n hx hb dX13_latest_29 rfl (lv_at hl 1 rfl) ?_
    refine t_ild X hT mb73879 gb73879 rfl (by omega) dX13_latest_30 (fun z73880 vz73880 rz73880 => ?_)
    have rz73880 : (-2147483648) ≤ z73880.toInt ∧ z73880.toInt ≤ 2147483647 := rz73880
    refine t_cVi (n := 1) (C := RX13) (T := TX13) (N := 37) (As := [.int z73880]) (rest := []) X hT (km93_X13_good l G tag L F hT.2.2.2 p0 z73880 m0 g0) m0 g0 rfl rfl qw_687 qw_688 qw_689 qw_5 qw_690 ⟨rfl, by decide +kernel, by decide +kernel, by decide +kernel⟩ ⟨Nat.le_of_ble_eq_true rfl, Nat.le_of_ble_eq_true rfl⟩ hl rfl rfl (Nat.le_of_ble_eq_true rfl) dX13_latest_31 ⟨Nat.le_of_ble_eq_true rfl, Nat.le_of_ble_eq_true rfl⟩ (fun z73881 F H locs hT hz73881 => ?_)
    obtain ⟨hz73881, yz73881⟩ := hz73881
    have pf0 := (yz73881.1 _ 3 (Or.inr (by decide)) (Or.inr (by decide))).trans pf0
    have v73871 := (yz73881.1 _ 0 (Or.inr (by decide)) (Or.inr (by decide))).trans v73871
    have qz73876 := (yz73881.1 _ 29 (Or.inr (by decide)) (Or.inr (by decide))).trans qz73876
    have hv73878 := (yz73881.1 _ 31 (Or.inr (by decide)) (Or.inr (by decide))).trans hv73878
    have vz73880 := (yz73881.2 _ _ ).trans vz73880
    have hfr : (∀ b j : Nat, (tag b ≠ 46 ∨ j ≠ 0) → (tag b ≠ 46 ∨ j ≠ 1) → (tag b ≠ 46 ∨ j ≠ 2) → (tag b ≠ 46 ∨ j ≠ 36) → fld F b j = fld Fo b j) ∧ (∀ b j : Nat, tag b ≠ 33 → tag b ≠ 43 → elm F b j = elm Fo b j) := ⟨fun b j n46_0 n46_1 n46_2 n46_36 => (yz73881.1 b j n46_1 n46_2).trans (hfr.1 b j n46_0 n46_1 n46_2 n46_36), fun b j a33 a43 => (yz73881.2 b j ).trans (hfr.2 b j a33 a43)⟩
    exact t_iret hQ X hT (⟨rg_all _, hfr⟩) (Nat.le_of_ble_eq_true rfl) (Nat.le_of_ble_eq_true rfl) dX13_latest_34
  · have w73882 := cv_eq (rfl : z73872.toInt = z73872.toInt) (by decide : (0 : Int32).toInt = 0) c73873
    refine lv_aload_n hx hb dX13_latest_13 rfl (lv_at hl 0 rfl) ?_
    refine lv_iconst (v := 1) hx hb dX13_latest_14 (by decide) ?_
    refine t_cVi (n := 1) (C := RX13) (T := TX13) (N := 37) (As := [.int 1]) (rest := []) X hT (km88_X13_refused l G tag L F hT.2.2.2 p0 1 m0 g0) m0 g0 rfl rfl qw_484 qw_485 qw_486 qw_5 qw_487 ⟨rfl, by decide +kernel, by decide +kernel, by decide +kernel⟩ ⟨Nat.le_of_ble_eq_true rfl, Nat.le_of_ble_eq_true rfl⟩ hl rfl rfl (Nat.le_of_ble_eq_true rfl) dX13_latest_15 ⟨Nat.le_of_ble_eq_true rfl, Nat.le_of_ble_eq_true rfl⟩ (fun z73883 F H locs hT hz73883 => ?_)
    obtain ⟨hz73883, yz73883⟩ := hz73883
    have pf0 := (yz73883.1 _ 3 (Or.inr (by decide)) (Or.inr (by decide))).trans pf0
    have v73871 := (yz73883.1 _ 0 (Or.inr (by decide)) (Or.inr (by decide))).trans v73871
    have hfr : (∀ b j : Nat, (tag b ≠ 46 ∨ j ≠ 0) → (tag b ≠ 46 ∨ j ≠ 1) → (tag b ≠ 46 ∨ j ≠ 2) → (tag b ≠ 46 ∨ j ≠ 36) → fld F b j = fld Fo b j) ∧ (∀ b j : Nat, tag b ≠ 33 → tag b ≠ 43 → elm F b j = elm Fo b j) := ⟨fun b j n46_0 n46_1 n46_2 n46_36 => (yz73883.1 b j n46_1 n46_2).trans (hfr.1 b j n46_0 n46_1 n46_2 n46_36), fun b j a33 a43 => (yz73883.2 b j ).trans (hfr.2 b j a33 a43)⟩
    exact t_iret hQ X hT (⟨rg_all _, hfr⟩) (Nat.le_of_ble_eq_true rfl) (Nat.le_of_ble_eq_true rfl) dX13_latest_18
set_option maxHeartbeats 4000000 in
set_option maxRecDepth 100000 in
theorem km240_X13_latest (l : Launch) (G : KG) (tag : Nat → Nat) (L : List Nat) (Fo : Nat → va_E) (ho : okT G ttC tag L Fo) (p0 : Nat) (p1 : Int32) (m0 : p0 ∈ L) (g0 : tag p0 = 46) (pf0 : fld Fo p0 3 = .null) : TMi l yX13_latest cX13_latest 2 (some .int) { frames := 4, cells := 0, slots := 0, locals := 91 } G ttC tag L Fo [.ref p0, .int p1] (fun r F1 => ((-2147483648) ≤ r.toInt ∧ r.toInt ≤ 2147483647) ∧ ((∀ b j : Nat, (tag b ≠ 46 ∨ j ≠ 0) → (tag b ≠ 46 ∨ j ≠ 1) → (tag b ≠ 46 ∨ j ≠ 2) → (tag b ≠ 46 ∨ j ≠ 36) → fld F1 b j = fld Fo b j) ∧ (∀ b j : Nat, tag b ≠ 33 → tag b ≠ 43 → elm F1 b j = elm Fo b j))) := by
  refine t_bodyi (y := yX13_latest) (cd := cX13_latest) (mL := 2) (rt := (some .int)) (rm := { frames := 4, cells := 0, slots := 0, locals := 91 }) (av := [.ref p0, .int p1]) (by decide) (Nat.le_of_ble_eq_true rfl) ho ?_
  intro p e s m args below meth c ls A Q hQ X hT hl
  have hx := X.1.1
  have hb := X.1.2.1
  have hl : lv_has ls 2 [(0, .ref p0), (1, .int p1)] := hl
  have rp1 := rg_all p1
  obtain ⟨F, hFo⟩ : ∃ F : Nat → va_E, F = Fo := ⟨_, rfl⟩
  rw [← hFo] at hT pf0
  have hfr : (∀ b j : Nat, (tag b ≠ 46 ∨ j ≠ 0) → (tag b ≠ 46 ∨ j ≠ 1) → (tag b ≠ 46 ∨ j ≠ 2) → (tag b ≠ 46 ∨ j ≠ 36) → fld F b j = fld Fo b j) ∧ (∀ b j : Nat, tag b ≠ 33 → tag b ≠ 43 → elm F b j = elm Fo b j) := by
    rw [hFo]
    exact ⟨by intros; rfl, by intros; rfl⟩
  refine lv_aload_n hx hb dX13_latest_0 rfl (lv_at hl 0 rfl) ?_
  refine lv_iconst (v := 0) hx hb dX13_latest_1 (by decide) ?_
  refine t_put (C := RX13) (T := TX13) (N := 37) (v := .int 0) X hT m0 g0 rfl tyX13 tyX13_ok nmX13 rfl 0 (by decide) qw_140 inlX13 rfl (by first | rfl | decide) (by first | rfl | decide) rfl (⟨_, rfl, (show (-2147483648) ≤ (0 : Int32).toInt from (by decide)), (show (0 : Int32).toInt ≤ 2147483647 from (by decide))⟩) dX13_latest_2 (fun F H locs hT v73950 h1v73950 h2v73950 => ?_)
  have pf0 := (h1v73950 _ _ (Or.inr (by decide))).trans pf0
  have hfr : (∀ b j : Nat, (tag b ≠ 46 ∨ j ≠ 0) → (tag b ≠ 46 ∨ j ≠ 1) → (tag b ≠ 46 ∨ j ≠ 2) → (tag b ≠ 46 ∨ j ≠ 36) → fld F b j = fld Fo b j) ∧ (∀ b j : Nat, tag b ≠ 33 → tag b ≠ 43 → elm F b j = elm Fo b j) := ⟨fun b j n46_0 n46_1 n46_2 n46_36 => (h1v73950 b j (fr_ne g0 n46_0)).trans (hfr.1 b j n46_0 n46_1 n46_2 n46_36), fun b j a33 a43 => (h2v73950 b j).trans (hfr.2 b j a33 a43)⟩
  refine lv_aload_n hx hb dX13_latest_5 rfl (lv_at hl 0 rfl) ?_
  refine lv_iload_n hx hb dX13_latest_6 rfl (lv_at hl 1 rfl) ?_
  refine t_cVi (n := 1) (C := RX13) (T := TX13) (N := 37) (As := [.int p1]) (rest := []) X hT (km233_X13_isWall l G tag L F hT.2.2.2 p0 p1 m0 g0 pf0) m0 g0 rfl rfl qw_1392 qw_1393 qw_1394 qw_5 qw_1395 ⟨rfl, by decide +kernel, by decide +kernel, by decide +kernel⟩ ⟨Nat.le_of_ble_eq_true rfl, Nat.le_of_ble_eq_true rfl⟩ hl rfl rfl (Nat.le_of_ble_eq_true rfl) dX13_latest_7 ⟨Nat.le_of_ble_eq_true rfl, Nat.le_of_ble_eq_true rfl⟩ (fun z73951 F9 H locs hT hz73951 => ?_)
  obtain ⟨fz73951, hz73951⟩ := hz73951
  rw [fz73951] at hT
  refine lv_if_ne (tgt := 19) hx hb dX13_latest_10 (by decide) (fun c73952 => ?_) (fun c73952 => ?_)
  · have w73953 := cv_ne (rfl : z73951.toInt = z73951.toInt) (by decide : (0 : Int32).toInt = 0) c73952
    exfalso
    omega
  · have w73954 := cv_eq (rfl : z73951.toInt = z73951.toInt) (by decide : (0 : Int32).toInt = 0) c73952
    refine lv_aload_n hx hb dX13_latest_13 rfl (lv_at hl 0 rfl) ?_
    refine lv_iconst (v := 1) hx hb dX13_latest_14 (by decide) ?_
    refine t_cVi (n := 1) (C := RX13) (T := TX13) (N := 37) (As := [.int 1]) (rest := []) X hT (km88_X13_refused l G tag L F hT.2.2.2 p0 1 m0 g0) m0 g0 rfl rfl qw_484 qw_485 qw_486 qw_5 qw_487 ⟨rfl, by decide +kernel, by decide +kernel, by decide +kernel⟩ ⟨Nat.le_of_ble_eq_true rfl, Nat.le_of_ble_eq_true rfl⟩ hl rfl rfl (Nat.le_of_ble_eq_true rfl) dX13_latest_15 ⟨Nat.le_of_ble_eq_true rfl, Nat.le_of_ble_eq_true rfl⟩ (fun z73955 F H locs hT hz73955 => ?_)
    obtain ⟨hz73955, yz73955⟩ := hz73955
    have pf0 := (yz73955.1 _ 3 (Or.inr (by decide)) (Or.inr (by decide))).trans pf0
    have v73950 := (yz73955.1 _ 0 (Or.inr (by decide)) (Or.inr (by decide))).trans v73950
    have hfr : (∀ b j : Nat, (tag b ≠ 46 ∨ j ≠ 0) → (tag b ≠ 46 ∨ j ≠ 1) → (tag b ≠ 46 ∨ j ≠ 2) → (tag b ≠ 46 ∨ j ≠ 36) → fld F b j = fld Fo b j) ∧ (∀ b j : Nat, tag b ≠ 33 → tag b ≠ 43 → elm F b j = elm Fo b j) := ⟨fun b j n46_0 n46_1 n46_2 n46_36 => (yz73955.1 b j n46_1 n46_2).trans (hfr.1 b j n46_0 n46_1 n46_2 n46_36), fun b j a33 a43 => (yz73955.2 b j ).trans (hfr.2 b j a33 a43)⟩
    exact t_iret hQ X hT (⟨rg_all _, hfr⟩) (Nat.le_of_ble_eq_true rfl) (Nat.le_of_ble_eq_true rfl) dX13_latest_18
