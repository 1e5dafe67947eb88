set_option maxHeartbeats 4000000 in
set_option maxRecDepth 100000 in
theorem km228_X13_orders (l : Launch) (G : KG) (tag : Nat → Nat) (L : List Nat) (Fo : Nat → va_E) (ho : okT G ttC tag L Fo) (p0 : Nat) (x0 : Nat) (m0 : p0 ∈ L) (g0 : tag p0 = 46) (mx0 : x0 ∈ L) (gx0 : tag x0 = 45) (pf0 : fld Fo p0 3 = .ref x0) : TMi l yX13_orders cX13_orders 1 (some .int) { frames := 4, cells := 0, slots := 0, locals := 91 } G ttC tag L Fo [.ref p0] (fun r F1 => ((-2147483648) ≤ r.toInt ∧ r.toInt ≤ 2147483647) ∧ ((∀ b j : Nat, (tag b ≠ 46 ∨ j ≠ 0) → (tag b ≠ 46 ∨ j ≠ 1) → (tag b ≠ 46 ∨ j ≠ 2) → (tag b ≠ 46 ∨ j ≠ 36) → fld F1 b j = fld Fo b j) ∧ (∀ b j : Nat, tag b ≠ 33 → tag b ≠ 43 → elm F1 b j = elm Fo b j))) := by
  refine t_bodyi (y := yX13_orders) (cd := cX13_orders) (mL := 1) (rt := (some .int)) (rm := { frames := 4, cells := 0, slots := 0, locals := 91 }) (av := [.ref p0]) (by decide) (Nat.le_of_ble_eq_true rfl) ho ?_
  intro p e s m args below meth c ls A Q hQ X hT hl
  have hx := X.1.1
  have hb := X.1.2.1
  have hl : lv_has ls 1 [(0, .ref p0)] := hl
  obtain ⟨F, hFo⟩ : ∃ F : Nat → va_E, F = Fo := ⟨_, rfl⟩
  rw [← hFo] at hT pf0
  have hfr : (∀ b j : Nat, (tag b ≠ 46 ∨ j ≠ 0) → (tag b ≠ 46 ∨ j ≠ 1) → (tag b ≠ 46 ∨ j ≠ 2) → (tag b ≠ 46 ∨ j ≠ 36) → fld F b j = fld Fo b j) ∧ (∀ b j : Nat, tag b ≠ 33 → tag b ≠ 43 → elm F b j = elm Fo b j) := by
    rw [hFo]
    exact ⟨by intros; rfl, by intros; rfl⟩
  refine lv_aload_n hx hb dX13_orders_0 rfl (lv_at hl 0 rfl) ?_
  refine lv_iconst (v := 0) hx hb dX13_orders_1 (by decide) ?_
  refine t_put (C := RX13) (T := TX13) (N := 37) (v := .int 0) X hT m0 g0 rfl tyX13 tyX13_ok nmX13 rfl 0 (by decide) qw_140 inlX13 rfl (by first | rfl | decide) (by first | rfl | decide) rfl (⟨_, rfl, (show (-2147483648) ≤ (0 : Int32).toInt from (by decide)), (show (0 : Int32).toInt ≤ 2147483647 from (by decide))⟩) dX13_orders_2 (fun F H locs hT v73150 h1v73150 h2v73150 => ?_)
  have pf0 := (h1v73150 _ _ (Or.inr (by decide))).trans pf0
  have hfr : (∀ b j : Nat, (tag b ≠ 46 ∨ j ≠ 0) → (tag b ≠ 46 ∨ j ≠ 1) → (tag b ≠ 46 ∨ j ≠ 2) → (tag b ≠ 46 ∨ j ≠ 36) → fld F b j = fld Fo b j) ∧ (∀ b j : Nat, tag b ≠ 33 → tag b ≠ 43 → elm F b j = elm Fo b j) := ⟨fun b j n46_0 n46_1 n46_2 n46_36 => (h1v73150 b j (fr_ne g0 n46_0)).trans (hfr.1 b j n46_0 n46_1 n46_2 n46_36), fun b j a33 a43 => (h2v73150 b j).trans (hfr.2 b j a33 a43)⟩
  refine lv_aload_n hx hb dX13_orders_5 rfl (lv_at hl 0 rfl) ?_
  refine t_get (C := RX13) (T := TX13) (N := 37) X hT m0 g0 rfl rfl 3 (by decide) qw_481 inlX13 rfl dX13_orders_6 (fun v73151 hv73151 ov73151 => ?_)
  obtain rfl : v73151 = .ref x0 := hv73151.symm.trans pf0
  refine lv_ifnonnull (tgt := 18) hx hb dX13_orders_9 (by decide) ?_
  refine lv_aload_n hx hb dX13_orders_18 rfl (lv_at hl 0 rfl) ?_
  refine lv_iconst (v := (-1)) hx hb dX13_orders_19 (by decide) ?_
  obtain ⟨z73152, qz73152, mz73152, gz73152⟩ := t_fldr hT m0 g0 rfl 29 rfl
  have gz73152 : tag z73152 = 43 := tg_of gz73152
  refine t_cVv (n := 1) (C := RX13) (T := TX13) (N := 37) (As := [.int (-1)]) (rest := []) X hT (km227_X13_findsOrders l G tag L F hT.2.2.2 p0 (-1) x0 z73152 m0 g0 mx0 gx0 pf0 mz73152 gz73152 qz73152) m0 g0 rfl rfl qw_1362 qw_1363 qw_1364 qw_5 qw_1365 ⟨rfl, by decide +kernel, by decide +kernel, by decide +kernel⟩ ⟨Nat.le_of_ble_eq_true rfl, Nat.le_of_ble_eq_true rfl⟩ hl rfl rfl (Nat.le_of_ble_eq_true rfl) dX13_orders_20 ⟨Nat.le_of_ble_eq_true rfl, Nat.le_of_ble_eq_true rfl⟩ (fun F H locs hT hz73153 => ?_)
  have yz73153 := hz73153
  have pf0 := (yz73153.1 _ 3 (Or.inr (by decide))).trans pf0
  have v73150 := (yz73153.1 _ 0 (Or.inr (by decide))).trans v73150
  have qz73152 := (yz73153.1 _ 29 (Or.inr (by decide))).trans qz73152
  have hfr : (∀ b j : Nat, (tag b ≠ 46 ∨ j ≠ 0) → (tag b ≠ 46 ∨ j ≠ 1) → (tag b ≠ 46 ∨ j ≠ 2) → (tag b ≠ 46 ∨ j ≠ 36) → fld F b j = fld Fo b j) ∧ (∀ b j : Nat, tag b ≠ 33 → tag b ≠ 43 → elm F b j = elm Fo b j) := ⟨fun b j n46_0 n46_1 n46_2 n46_36 => (yz73153.1 b j n46_36).trans (hfr.1 b j n46_0 n46_1 n46_2 n46_36), fun b j a33 a43 => (yz73153.2 b j a33 a43).trans (hfr.2 b j a33 a43)⟩
  refine lv_aload_n hx hb dX13_orders_23 rfl (lv_at hl 0 rfl) ?_
  refine lv_aload_n hx hb dX13_orders_24 rfl (lv_at hl 0 rfl) ?_
  refine t_get (C := RX13) (T := TX13) (N := 37) X hT m0 g0 rfl rfl 36 (by decide) qw_1361 inlX13 rfl dX13_orders_25 (fun v73154 hv73154 ov73154 => ?_)
  obtain ⟨z73155, rfl, rz73155⟩ := okV_i ov73154
  refine t_cVi (n := 1) (C := RX13) (T := TX13) (N := 37) (As := [.int z73155]) (rest := []) X hT (km93_X13_good l G tag L F hT.2.2.2 p0 z73155 m0 g0) m0 g0 rfl rfl qw_687 qw_688 qw_689 qw_5 qw_690 ⟨rfl, by decide +kernel, by decide +kernel, by decide +kernel⟩ ⟨Nat.le_of_ble_eq_true rfl, Nat.le_of_ble_eq_true rfl⟩ hl rfl rfl (Nat.le_of_ble_eq_true rfl) dX13_orders_28 ⟨Nat.le_of_ble_eq_true rfl, Nat.le_of_ble_eq_true rfl⟩ (fun z73156 F H locs hT hz73156 => ?_)
  obtain ⟨hz73156, yz73156⟩ := hz73156
  have pf0 := (yz73156.1 _ 3 (Or.inr (by decide)) (Or.inr (by decide))).trans pf0
  have v73150 := (yz73156.1 _ 0 (Or.inr (by decide)) (Or.inr (by decide))).trans v73150
  have qz73152 := (yz73156.1 _ 29 (Or.inr (by decide)) (Or.inr (by decide))).trans qz73152
  have hv73154 := (yz73156.1 _ 36 (Or.inr (by decide)) (Or.inr (by decide))).trans hv73154
  have hfr : (∀ b j : Nat, (tag b ≠ 46 ∨ j ≠ 0) → (tag b ≠ 46 ∨ j ≠ 1) → (tag b ≠ 46 ∨ j ≠ 2) → (tag b ≠ 46 ∨ j ≠ 36) → fld F b j = fld Fo b j) ∧ (∀ b j : Nat, tag b ≠ 33 → tag b ≠ 43 → elm F b j = elm Fo b j) := ⟨fun b j n46_0 n46_1 n46_2 n46_36 => (yz73156.1 b j n46_1 n46_2).trans (hfr.1 b j n46_0 n46_1 n46_2 n46_36), fun b j a33 a43 => (yz73156.2 b j ).trans (hfr.2 b j a33 a43)⟩
  exact t_iret hQ X hT (⟨rg_all _, hfr⟩) (Nat.le_of_ble_eq_true rfl) (Nat.le_of_ble_eq_true rfl) dX13_orders_31
set_option maxHeartbeats 4000000 in
set_option maxRecDepth 100000 in
theorem km229_X13_orders (l : Launch) (G : KG) (tag : Nat → Nat) (L : List Nat) (Fo : Nat → va_E) (ho : okT G ttC tag L Fo) (p0 : Nat) (m0 : p0 ∈ L) (g0 : tag p0 = 46) (pf0 : fld Fo p0 3 = .null) : TMi l yX13_orders cX13_orders 1 (some .int) { frames := 4, cells := 0, slots := 0, locals := 91 } G ttC tag L Fo [.ref p0] (fun r F1 => ((-2147483648) ≤ r.toInt ∧ r.toInt ≤ 2147483647) ∧ ((∀ b j : Nat, (tag b ≠ 46 ∨ j ≠ 0) → (tag b ≠ 46 ∨ j ≠ 1) → (tag b ≠ 46 ∨ j ≠ 2) → (tag b ≠ 46 ∨ j ≠ 36) → fld F1 b j = fld Fo b j) ∧ (∀ b j : Nat, tag b ≠ 33 → tag b ≠ 43 → elm F1 b j = elm Fo b j))) := by
  refine t_bodyi (y := yX13_orders) (cd := cX13_orders) (mL := 1) (rt := (some .int)) (rm := { frames := 4, cells := 0, slots := 0, locals := 91 }) (av := [.ref p0]) (by decide) (Nat.le_of_ble_eq_true rfl) ho ?_
  intro p e s m args below meth c ls A Q hQ X hT hl
  have hx := X.1.1
  have hb := X.1.2.1
  have hl : lv_has ls 1 [(0, .ref p0)] := hl
  obtain ⟨F, hFo⟩ : ∃ F : Nat → va_E, F = Fo := ⟨_, rfl⟩
  rw [← hFo] at hT pf0
  have hfr : (∀ b j : Nat, (tag b ≠ 46 ∨ j ≠ 0) → (tag b ≠ 46 ∨ j ≠ 1) → (tag b ≠ 46 ∨ j ≠ 2) → (tag b ≠ 46 ∨ j ≠ 36) → fld F b j = fld Fo b j) ∧ (∀ b j : Nat, tag b ≠ 33 → tag b ≠ 43 → elm F b j = elm Fo b j) := by
    rw [hFo]
    exact ⟨by intros; rfl, by intros; rfl⟩
  refine lv_aload_n hx hb dX13_orders_0 rfl (lv_at hl 0 rfl) ?_
  refine lv_iconst (v := 0) hx hb dX13_orders_1 (by decide) ?_
  refine t_put (C := RX13) (T := TX13) (N := 37) (v := .int 0) X hT m0 g0 rfl tyX13 tyX13_ok nmX13 rfl 0 (by decide) qw_140 inlX13 rfl (by first | rfl | decide) (by first | rfl | decide) rfl (⟨_, rfl, (show (-2147483648) ≤ (0 : Int32).toInt from (by decide)), (show (0 : Int32).toInt ≤ 2147483647 from (by decide))⟩) dX13_orders_2 (fun F H locs hT v73190 h1v73190 h2v73190 => ?_)
  have pf0 := (h1v73190 _ _ (Or.inr (by decide))).trans pf0
  have hfr : (∀ b j : Nat, (tag b ≠ 46 ∨ j ≠ 0) → (tag b ≠ 46 ∨ j ≠ 1) → (tag b ≠ 46 ∨ j ≠ 2) → (tag b ≠ 46 ∨ j ≠ 36) → fld F b j = fld Fo b j) ∧ (∀ b j : Nat, tag b ≠ 33 → tag b ≠ 43 → elm F b j = elm Fo b j) := ⟨fun b j n46_0 n46_1 n46_2 n46_36 => (h1v73190 b j (fr_ne g0 n46_0)).trans (hfr.1 b j n46_0 n46_1 n46_2 n46_36), fun b j a33 a43 => (h2v73190 b j).trans (hfr.2 b j a33 a43)⟩
  refine lv_aload_n hx hb dX13_orders_5 rfl (lv_at hl 0 rfl) ?_
  refine t_get (C := RX13) (T := TX13) (N := 37) X hT m0 g0 rfl rfl 3 (by decide) qw_481 inlX13 rfl dX13_orders_6 (fun v73191 hv73191 ov73191 => ?_)
  obtain rfl : v73191 = .null := hv73191.symm.trans pf0
  refine lv_ifnonnullN hx hb dX13_orders_9 ?_
  refine lv_aload_n hx hb dX13_orders_12 rfl (lv_at hl 0 rfl) ?_
  refine lv_iconst (v := 1) hx hb dX13_orders_13 (by decide) ?_
  refine t_cVi (n := 1) (C := RX13) (T := TX13) (N := 37) (As := [.int 1]) (rest := []) X hT (km88_X13_refused l G tag L F hT.2.2.2 p0 1 m0 g0) m0 g0 rfl rfl qw_484 qw_485 qw_486 qw_5 qw_487 ⟨rfl, by decide +kernel, by decide +kernel, by decide +kernel⟩ ⟨Nat.le_of_ble_eq_true rfl, Nat.le_of_ble_eq_true rfl⟩ hl rfl rfl (Nat.le_of_ble_eq_true rfl) dX13_orders_14 ⟨Nat.le_of_ble_eq_true rfl, Nat.le_of_ble_eq_true rfl⟩ (fun z73192 F H locs hT hz73192 => ?_)
  obtain ⟨hz73192, yz73192⟩ := hz73192
  have pf0 := (yz73192.1 _ 3 (Or.inr (by decide)) (Or.inr (by decide))).trans pf0
  have v73190 := (yz73192.1 _ 0 (Or.inr (by decide)) (Or.inr (by decide))).trans v73190
  have hfr : (∀ b j : Nat, (tag b ≠ 46 ∨ j ≠ 0) → (tag b ≠ 46 ∨ j ≠ 1) → (tag b ≠ 46 ∨ j ≠ 2) → (tag b ≠ 46 ∨ j ≠ 36) → fld F b j = fld Fo b j) ∧ (∀ b j : Nat, tag b ≠ 33 → tag b ≠ 43 → elm F b j = elm Fo b j) := ⟨fun b j n46_0 n46_1 n46_2 n46_36 => (yz73192.1 b j n46_1 n46_2).trans (hfr.1 b j n46_0 n46_1 n46_2 n46_36), fun b j a33 a43 => (yz73192.2 b j ).trans (hfr.2 b j a33 a43)⟩
  exact t_iret hQ X hT (⟨rg_all _, hfr⟩) (Nat.le_of_ble_eq_true rfl) (Nat.le_of_ble_eq_true rfl) dX13_orders_17
theorem kp_X13_orders (l : Launch) (G : KG) (tag : Nat → Nat) (L : List Nat) (Fo : Nat → va_E) (ho : okT G ttC tag L Fo) (p0 : Nat) (m0 : p0 ∈ L) (g0 : tag p0 = 46) : TMi l yX13_orders cX13_orders 1 (some .int) { frames := 4, cells := 0, slots := 0, locals := 91 } G ttC tag L Fo [.ref p0] (fun r F1 => ((-2147483648) ≤ r.toInt ∧ r.toInt ≤ 2147483647) ∧ ((∀ b j : Nat, (tag b ≠ 46 ∨ j ≠ 0) → (tag b ≠ 46 ∨ j ≠ 1) → (tag b ≠ 46 ∨ j ≠ 2) → (tag b ≠ 46 ∨ j ≠ 36) → fld F1 b j = fld Fo b j) ∧ (∀ b j : Nat, tag b ≠ 33 → tag b ≠ 43 → elm F1 b j = elm Fo b j))) := by
  rcases t_fldn ho m0 g0 rfl 3 rfl with h9 | ⟨b9, h9, m9, t9⟩
  · exact km229_X13_orders l G tag L Fo ho p0  m0 g0 h9 
  · exact km228_X13_orders l G tag L Fo ho p0 b9  m0 g0 m9 (tg_of t9) h9 
set_option maxHeartbeats 4000000 in
set_option maxRecDepth 100000 in
theorem km231_X13_isWall (l : Launch) (G : KG) (tag : Nat → Nat) (L : List Nat) (F : Nat → va_E) (ho : okT G ttC tag L F) (p0 : Nat) (p1 : Int32) (x0 : Nat) (m0 : p0 ∈ L) (g0 : tag p0 = 46) (mx0 : x0 ∈ L) (gx0 : tag x0 = 45) (pf0 : fld F p0 3 = .ref x0) : TMi l yX13_isWall cX13_isWall 2 (some .boolean) { frames := 0, cells := 0, slots := 0, locals := 0 } G ttC tag L F [.ref p0, .int p1] (fun r F1 => F1 = F ∧ ((0 ≤ r.toInt ∧ r.toInt ≤ 1) ∧ (r.toInt ≠ 0 → (0 ≤ p1.toInt ∧ p1.toInt ≤ 5)))) := by
  refine t_bodyi (y := yX13_isWall) (cd := cX13_isWall) (mL := 2) (rt := (some .boolean)) (rm := { frames := 0, cells := 0, slots := 0, locals := 0 }) (av := [.ref p0, .int p1]) (by decide) (Nat.le_of_ble_eq_true rfl) ho ?_
  intro p e s m args below meth c ls A Q hQ X hT hl
  have hx := X.1.1
  have hb := X.1.2.1
  have hl : lv_has ls 2 [(0, .ref p0), (1, .int p1)] := hl
  have rp1 := rg_all p1
  refine lv_aload_n hx hb dX13_isWall_0 rfl (lv_at hl 0 rfl) ?_
  refine t_get (C := RX13) (T := TX13) (N := 37) X hT m0 g0 rfl rfl 3 (by decide) qw_481 inlX13 rfl dX13_isWall_1 (fun v73304 hv73304 ov73304 => ?_)
  obtain rfl : v73304 = .ref x0 := hv73304.symm.trans pf0
  refine lv_ifnull hx hb dX13_isWall_4 ?_
  refine lv_iload_n hx hb dX13_isWall_7 rfl (lv_at hl 1 rfl) ?_
  refine lv_if_lt (tgt := 26) hx hb dX13_isWall_8 (by decide) (fun c73305 => ?_) (fun c73305 => ?_)
  · have w73306 := cv_lt (rfl : p1.toInt = p1.toInt) (by decide : (0 : Int32).toInt = 0) c73305
    refine lv_iconst (v := 0) hx hb dX13_isWall_26 (by decide) ?_
    have k73307 : (0 : Int32).toInt = 0 := by decide
    exact t_zret hQ X hT (by decide) (⟨rfl, ⟨(by decide), fun h => absurd (by decide) h⟩⟩) (Nat.le_of_ble_eq_true rfl) (Nat.le_of_ble_eq_true rfl) dX13_isWall_27
  · have w73308 := cv_nlt (rfl : p1.toInt = p1.toInt) (by decide : (0 : Int32).toInt = 0) c73305
    refine lv_iload_n hx hb dX13_isWall_11 rfl (lv_at hl 1 rfl) ?_
    refine lv_aload_n hx hb dX13_isWall_12 rfl (lv_at hl 0 rfl) ?_
    refine t_get (C := RX13) (T := TX13) (N := 37) X hT m0 g0 rfl rfl 3 (by decide) qw_481 inlX13 rfl dX13_isWall_13 (fun v73309 hv73309 ov73309 => ?_)
    obtain rfl : v73309 = .ref x0 := hv73309.symm.trans pf0
    refine t_getN (C := RX12) (T := TX12) (N := 31) X hT mx0 gx0 rfl rfl 10 (by decide) (List.mem_of_getElem? (i := 14) rfl) inlX12 rfl dX13_isWall_16 (fun v73310 hv73310 ov73310 => ?_)
    obtain ⟨z73311, rfl, rz73311⟩ := okV_i ov73310
    refine lv_icmp_ge (tgt := 26) hx hb dX13_isWall_19 (by decide) (fun c73312 => ?_) (fun c73312 => ?_)
    · have w73313 := cv_le (rfl : z73311.toInt = z73311.toInt) (rfl : p1.toInt = p1.toInt) c73312
      refine lv_iconst (v := 0) hx hb dX13_isWall_26 (by decide) ?_
      have k73314 : (0 : Int32).toInt = 0 := by decide
      exact t_zret hQ X hT (by decide) (⟨rfl, ⟨(by decide), fun h => absurd (by decide) h⟩⟩) (Nat.le_of_ble_eq_true rfl) (Nat.le_of_ble_eq_true rfl) dX13_isWall_27
    · have w73315 := cv_nle (rfl : z73311.toInt = z73311.toInt) (rfl : p1.toInt = p1.toInt) c73312
      refine lv_iconst (v := 1) hx hb dX13_isWall_22 (by decide) ?_
      refine lv_goto (tgt := 27) hx hb dX13_isWall_23 (by decide) ?_
      have k73316 : (1 : Int32).toInt = 1 := by decide
      exact t_zret hQ X hT (by decide) (⟨rfl, ⟨(by decide), fun _ => by omega⟩⟩) (Nat.le_of_ble_eq_true rfl) (Nat.le_of_ble_eq_true rfl) dX13_isWall_27
set_option maxHeartbeats 4000000 in
set_option maxRecDepth 100000 in
theorem km232_X13_order (l : Launch) (G : KG) (tag : Nat → Nat) (L : List Nat) (Fo : Nat → va_E) (ho : okT G ttC tag L Fo) (p0 : Nat) (p1 : Int32) (p2 : Int32) (x0 : Nat) (m0 : p0 ∈ L) (g0 : tag p0 = 46) (mx0 : x0 ∈ L) (gx0 : tag x0 = 45) (pf0 : fld Fo p0 3 = .ref x0) : TMi l yX13_order cX13_order 3 (some .int) { frames := 4, cells := 0, slots := 0, locals := 91 } G ttC tag L Fo [.ref p0, .int p1, .int p2] (fun r F1 => ((-2147483648) ≤ r.toInt ∧ r.toInt ≤ 2147483647) ∧ ((∀ b j : Nat, (tag b ≠ 46 ∨ j ≠ 0) → (tag b ≠ 46 ∨ j ≠ 1) → (tag b ≠ 46 ∨ j ≠ 2) → (tag b ≠ 46 ∨ j ≠ 36) → fld F1 b j = fld Fo b j) ∧ (∀ b j : Nat, tag b ≠ 33 → tag b ≠ 43 → elm F1 b j = elm Fo b j))) := by
  refine t_bodyi (y := yX13_order) (cd := cX13_order) (mL := 3) (rt := (some .int)) (rm := { frames := 4, cells := 0, slots := 0, locals := 91 }) (av := [.ref p0, .int p1, .int p2]) (by decide) (Nat.le_of_ble_eq_true rfl) ho ?_
  intro p e s m args below meth c ls A Q hQ X hT hl
  have hx := X.1.1
  have hb := X.1.2.1
  have hl : lv_has ls 3 [(0, .ref p0), (1, .int p1), (2, .int p2)] := hl
  have rp1 := rg_all p1
  have rp2 := rg_all p2
  obtain ⟨F, hFo⟩ : ∃ F : Nat → va_E, F = Fo := ⟨_, rfl⟩
  rw [← hFo] at hT pf0
  have hfr : (∀ b j : Nat, (tag b ≠ 46 ∨ j ≠ 0) → (tag b ≠ 46 ∨ j ≠ 1) → (tag b ≠ 46 ∨ j ≠ 2) → (tag b ≠ 46 ∨ j ≠ 36) → fld F b j = fld Fo b j) ∧ (∀ b j : Nat, tag b ≠ 33 → tag b ≠ 43 → elm F b j = elm Fo b j) := by
    rw [hFo]
    exact ⟨by intros; rfl, by intros; rfl⟩
  refine lv_aload_n hx hb dX13_order_0 rfl (lv_at hl 0 rfl) ?_
  refine lv_iconst (v := 0) hx hb dX13_order_1 (by decide) ?_
  refine t_put (C := RX13) (T := TX13) (N := 37) (v := .int 0) X hT m0 g0 rfl tyX13 tyX13_ok nmX13 rfl 0 (by decide) qw_140 inlX13 rfl (by first | rfl | decide) (by first | rfl | decide) rfl (⟨_, rfl, (show (-2147483648) ≤ (0 : Int32).toInt from (by decide)), (show (0 : Int32).toInt ≤ 2147483647 from (by decide))⟩) dX13_order_2 (fun F H locs hT v73569 h1v73569 h2v73569 => ?_)
  have pf0 := (h1v73569 _ _ (Or.inr (by decide))).trans pf0
  have hfr : (∀ b j : Nat, (tag b ≠ 46 ∨ j ≠ 0) → (tag b ≠ 46 ∨ j ≠ 1) → (tag b ≠ 46 ∨ j ≠ 2) → (tag b ≠ 46 ∨ j ≠ 36) → fld F b j = fld Fo b j) ∧ (∀ b j : Nat, tag b ≠ 33 → tag b ≠ 43 → elm F b j = elm Fo b j) := ⟨fun b j n46_0 n46_1 n46_2 n46_36 => (h1v73569 b j (fr_ne g0 n46_0)).trans (hfr.1 b j n46_0 n46_1 n46_2 n46_36), fun b j a33 a43 => (h2v73569 b j).trans (hfr.2 b j a33 a43)⟩
  refine lv_aload_n hx hb dX13_order_5 rfl (lv_at hl 0 rfl) ?_
  refine lv_iload_n hx hb dX13_order_6 rfl (lv_at hl 2 rfl) ?_
  refine t_cVi (n := 1) (C := RX13) (T := TX13) (N := 37) (As := [.int p2]) (rest := []) X hT (km231_X13_isWall l G tag L F hT.2.2.2 p0 p2 x0 m0 g0 mx0 gx0 pf0) m0 g0 rfl rfl qw_1392 qw_1393 qw_1394 qw_5 qw_1395 ⟨rfl, by decide +kernel, by decide +kernel, by decide +kernel⟩ ⟨Nat.le_of_ble_eq_true rfl, Nat.le_of_ble_eq_true rfl⟩ hl rfl rfl (Nat.le_of_ble_eq_true rfl) dX13_order_7 ⟨Nat.le_of_ble_eq_true rfl, Nat.le_of_ble_eq_true rfl⟩ (fun z73570 F9 H locs hT hz73570 => ?_)
  obtain ⟨fz73570, hz73570⟩ := hz73570
  rw [fz73570] at hT
  obtain ⟨hz73570, iz73570⟩ := hz73570
  refine lv_if_eq (tgt := 17) hx hb dX13_order_10 (by decide) (fun c73571 => ?_) (fun c73571 => ?_)
  · have w73572 := cv_eq (rfl : z73570.toInt = z73570.toInt) (by decide : (0 : Int32).toInt = 0) c73571
    refine lv_aload_n hx hb dX13_order_17 rfl (lv_at hl 0 rfl) ?_
    refine lv_iconst (v := 1) hx hb dX13_order_18 (by decide) ?_
    refine t_cVi (n := 1) (C := RX13) (T := TX13) (N := 37) (As := [.int 1]) (rest := []) X hT (km88_X13_refused l G tag L F hT.2.2.2 p0 1 m0 g0) m0 g0 rfl rfl qw_484 qw_485 qw_486 qw_5 qw_487 ⟨rfl, by decide +kernel, by decide +kernel, by decide +kernel⟩ ⟨Nat.le_of_ble_eq_true rfl, Nat.le_of_ble_eq_true rfl⟩ hl rfl rfl (Nat.le_of_ble_eq_true rfl) dX13_order_19 ⟨Nat.le_of_ble_eq_true rfl, Nat.le_of_ble_eq_true rfl⟩ (fun z73573 F H locs hT hz73573 => ?_)
    obtain ⟨hz73573, yz73573⟩ := hz73573
    have pf0 := (yz73573.1 _ 3 (Or.inr (by decide)) (Or.inr (by decide))).trans pf0
    have v73569 := (yz73573.1 _ 0 (Or.inr (by decide)) (Or.inr (by decide))).trans v73569
    have hfr : (∀ b j : Nat, (tag b ≠ 46 ∨ j ≠ 0) → (tag b ≠ 46 ∨ j ≠ 1) → (tag b ≠ 46 ∨ j ≠ 2) → (tag b ≠ 46 ∨ j ≠ 36) → fld F b j = fld Fo b j) ∧ (∀ b j : Nat, tag b ≠ 33 → tag b ≠ 43 → elm F b j = elm Fo b j) := ⟨fun b j n46_0 n46_1 n46_2 n46_36 => (yz73573.1 b j n46_1 n46_2).trans (hfr.1 b j n46_0 n46_1 n46_2 n46_36), fun b j a33 a43 => (yz73573.2 b j ).trans (hfr.2 b j a33 a43)⟩
    exact t_iret hQ X hT (⟨rg_all _, hfr⟩) (Nat.le_of_ble_eq_true rfl) (Nat.le_of_ble_eq_true rfl) dX13_order_22
  · have w73574 := cv_ne (rfl : z73570.toInt = z73570.toInt) (by decide : (0 : Int32).toInt = 0) c73571
    have w73575 := (fun h => (iz73570 h)) (by omega)
    refine lv_iload_n hx hb dX13_order_13 rfl (lv_at hl 1 rfl) ?_
    refine lv_if_ge (tgt := 23) hx hb dX13_order_14 (by decide) (fun c73576 => ?_) (fun c73576 => ?_)
    · have w73577 := cv_le (by decide : (0 : Int32).toInt = 0) (rfl : p1.toInt = p1.toInt) c73576
      refine lv_aload_n hx hb dX13_order_23 rfl (lv_at hl 0 rfl) ?_
      refine lv_iload_n hx hb dX13_order_24 rfl (lv_at hl 1 rfl) ?_
      obtain ⟨z73578, qz73578, mz73578, gz73578⟩ := t_fldr hT m0 g0 rfl 29 rfl
      have gz73578 : tag z73578 = 43 := tg_of gz73578
      refine t_cVv (n := 1) (C := RX13) (T := TX13) (N := 37) (As := [.int p1]) (rest := []) X hT (km227_X13_findsOrders l G tag L F hT.2.2.2 p0 p1 x0 z73578 m0 g0 mx0 gx0 pf0 mz73578 gz73578 qz73578) m0 g0 rfl rfl qw_1362 qw_1363 qw_1364 qw_5 qw_1365 ⟨rfl, by decide +kernel, by decide +kernel, by decide +kernel⟩ ⟨Nat.le_of_ble_eq_true rfl, Nat.le_of_ble_eq_true rfl⟩ hl rfl rfl (Nat.le_of_ble_eq_true rfl) dX13_order_25 ⟨Nat.le_of_ble_eq_true rfl, Nat.le_of_ble_eq_true rfl⟩ (fun F H locs hT hz73579 => ?_)
      have yz73579 := hz73579
      have pf0 := (yz73579.1 _ 3 (Or.inr (by decide))).trans pf0
      have v73569 := (yz73579.1 _ 0 (Or.inr (by decide))).trans v73569
      have qz73578 := (yz73579.1 _ 29 (Or.inr (by decide))).trans qz73578
      have hfr : (∀ b j : Nat, (tag b ≠ 46 ∨ j ≠ 0) → (tag b ≠ 46 ∨ j ≠ 1) → (tag b ≠ 46 ∨ j ≠ 2) → (tag b ≠ 46 ∨ j ≠ 36) → fld F b j = fld Fo b j) ∧ (∀ b j : Nat, tag b ≠ 33 → tag b ≠ 43 → elm F b j = elm Fo b j) := ⟨fun b j n46_0 n46_1 n46_2 n46_36 => (yz73579.1 b j n46_36).trans (hfr.1 b j n46_0 n46_1 n46_2 n46_36), fun b j a33 a43 => (yz73579.2 b j a33 a43).trans (hfr.2 b j a33 a43)⟩
      refine lv_iload_n hx hb dX13_order_28 rfl (lv_at hl 1 rfl) ?_
      refine lv_aload_n hx hb dX13_order_29 rfl (lv_at hl 0 rfl) ?_
      refine t_get (C := RX13) (T := TX13) (N := 37) X hT m0 g0 rfl rfl 36 (by decide) qw_1361 inlX13 rfl dX13_order_30 (fun v73580 hv73580 ov73580 => ?_)
      obtain ⟨z73581, rfl, rz73581⟩ := okV_i ov73580
      refine lv_icmp_ge (tgt := 49) hx hb dX13_order_33 (by decide) (fun c73582 => ?_) (fun c73582 => ?_)
      · have w73583 := cv_le (rfl : z73581.toInt = z73581.toInt) (rfl : p1.toInt = p1.toInt) c73582
        refine lv_aload_n hx hb dX13_order_49 rfl (lv_at hl 0 rfl) ?_
        refine lv_iconst (v := 1) hx hb dX13_order_50 (by decide) ?_
        refine t_cVi (n := 1) (C := RX13) (T := TX13) (N := 37) (As := [.int 1]) (rest := []) X hT (km88_X13_refused l G tag L F hT.2.2.2 p0 1 m0 g0) m0 g0 rfl rfl qw_484 qw_485 qw_486 qw_5 qw_487 ⟨rfl, by decide +kernel, by decide +kernel, by decide +kernel⟩ ⟨Nat.le_of_ble_eq_true rfl, Nat.le_of_ble_eq_true rfl⟩ hl rfl rfl (Nat.le_of_ble_eq_true rfl) dX13_order_51 ⟨Nat.le_of_ble_eq_true rfl, Nat.le_of_ble_eq_true rfl⟩ (fun z73584 F H locs hT hz73584 => ?_)
        obtain ⟨hz73584, yz73584⟩ := hz73584
        have pf0 := (yz73584.1 _ 3 (Or.inr (by decide)) (Or.inr (by decide))).trans pf0
        have v73569 := (yz73584.1 _ 0 (Or.inr (by decide)) (Or.inr (by decide))).trans v73569
        have qz73578 := (yz73584.1 _ 29 (Or.inr (by decide)) (Or.inr (by decide))).trans qz73578
        have hv73580 := (yz73584.1 _ 36 (Or.inr (by decide)) (Or.inr (by decide))).trans hv73580
        have hfr : (∀ b j : Nat, (tag b ≠ 46 ∨ j ≠ 0) → (tag b ≠ 46 ∨ j ≠ 1) → (tag b ≠ 46 ∨ j ≠ 2) → (tag b ≠ 46 ∨ j ≠ 36) → fld F b j = fld Fo b j) ∧ (∀ b j : Nat, tag b ≠ 33 → tag b ≠ 43 → elm F b j = elm Fo b j) := ⟨fun b j n46_0 n46_1 n46_2 n46_36 => (yz73584.1 b j n46_1 n46_2).trans (hfr.1 b j n46_0 n46_1 n46_2 n46_36), fun b j a33 a43 => (yz73584.2 b j ).trans (hfr.2 b j a33 a43)⟩
        exact t_iret hQ X hT (⟨rg_all _, hfr⟩) (Nat.le_of_ble_eq_true rfl) (Nat.le_of_ble_eq_true rfl) dX13_order_54
      · have w73585 := cv_nle (rfl : z73581.toInt = z73581.toInt) (rfl : p1.toInt = p1.toInt) c73582
        refine lv_aload_n hx hb dX13_order_36 rfl (lv_at hl 0 rfl) ?_
        refine lv_aload_n hx hb dX13_order_37 rfl (lv_at hl 0 rfl) ?_
        refine t_get (C := RX13) (T := TX13) (N := 37) X hT m0 g0 rfl rfl 35 (by decide) qw_126 inlX13 rfl dX13_order_38 (fun v73586 hv73586 ov73586 => ?_)
        obtain ⟨b73587, rfl, mb73587, gb73587⟩ := okV_r ov73586
        have gb73587 : tag b73587 = 33 := tg_of gb73587
        refine lv_iload_n hx hb dX13_order_41 rfl (lv_at hl 2 rfl) ?_
        refine t_ild X hT mb73587 gb73587 rfl (by omega) dX13_order_42 (fun z73588 vz73588 rz73588 => ?_)
        have rz73588 : (-2147483648) ≤ z73588.toInt ∧ z73588.toInt ≤ 2147483647 := rz73588
        refine t_cVi (n := 1) (C := RX13) (T := TX13) (N := 37) (As := [.int z73588]) (rest := []) X hT (km93_X13_good l G tag L F hT.2.2.2 p0 z73588 m0 g0) m0 g0 rfl rfl qw_687 qw_688 qw_689 qw_5 qw_690 ⟨rfl, by decide +kernel, by decide +kernel, by decide +kernel⟩ ⟨Nat.le_of_ble_eq_true rfl, Nat.le_of_ble_eq_true rfl⟩ hl rfl rfl (Nat.le_of_ble_eq_true rfl) dX13_order_43 ⟨Nat.le_of_ble_eq_true rfl, Nat.le_of_ble_eq_true rfl⟩ (fun z73589 F H locs hT hz73589 => ?_)
        obtain ⟨hz73589, yz73589⟩ := hz73589
        have pf0 := (yz73589.1 _ 3 (Or.inr (by decide)) (Or.inr (by decide))).trans pf0
        have v73569 := (yz73589.1 _ 0 (Or.inr (by decide)) (Or.inr (by decide))).trans v73569
        have qz73578 := (yz73589.1 _ 29 (Or.inr (by decide)) (Or.inr (by decide))).trans qz73578
        have hv73580 := (yz73589.1 _ 36 (Or.inr (by decide)) (Or.inr (by decide))).trans hv73580
        have hv73586 := (yz73589.1 _ 35 (Or.inr (by decide)) (Or.inr (by decide))).trans hv73586
        have vz73588 := (yz73589.2 _ _ ).trans vz73588
        have hfr : (∀ b j : Nat, (tag b ≠ 46 ∨ j ≠ 0) → (tag b ≠ 46 ∨ j ≠ 1) → (tag b ≠ 46 ∨ j ≠ 2) → (tag b ≠ 46 ∨ j ≠ 36) → fld F b j = fld Fo b j) ∧ (∀ b j : Nat, tag b ≠ 33 → tag b ≠ 43 → elm F b j = elm Fo b j) := ⟨fun b j n46_0 n46_1 n46_2 n46_36 => (yz73589.1 b j n46_1 n46_2).trans (hfr.1 b j n46_0 n46_1 n46_2 n46_36), fun b j a33 a43 => (yz73589.2 b j ).trans (hfr.2 b j a33 a43)⟩
        refine lv_goto (tgt := 54) hx hb dX13_order_46 (by decide) ?_
        exact t_iret hQ X hT (⟨rg_all _, hfr⟩) (Nat.le_of_ble_eq_true rfl) (Nat.le_of_ble_eq_true rfl) dX13_order_54
    · have w73590 := cv_nle (by decide : (0 : Int32).toInt = 0) (rfl : p1.toInt = p1.toInt) c73576
      refine lv_aload_n hx hb dX13_order_17 rfl (lv_at hl 0 rfl) ?_
      refine lv_iconst (v := 1) hx hb dX13_order_18 (by decide) ?_
      refine t_cVi (n := 1) (C := RX13) (T := TX13) (N := 37) (As := [.int 1]) (rest := []) X hT (km88_X13_refused l G tag L F hT.2.2.2 p0 1 m0 g0) m0 g0 rfl rfl qw_484 qw_485 qw_486 qw_5 qw_487 ⟨rfl, by decide +kernel, by decide +kernel, by decide +kernel⟩ ⟨Nat.le_of_ble_eq_true rfl, Nat.le_of_ble_eq_true rfl⟩ hl rfl rfl (Nat.le_of_ble_eq_true rfl) dX13_order_19 ⟨Nat.le_of_ble_eq_true rfl, Nat.le_of_ble_eq_true rfl⟩ (fun z73591 F H locs hT hz73591 => ?_)
      obtain ⟨hz73591, yz73591⟩ := hz73591
      have pf0 := (yz73591.1 _ 3 (Or.inr (by decide)) (Or.inr (by decide))).trans pf0
      have v73569 := (yz73591.1 _ 0 (Or.inr (by decide)) (Or.inr (by decide))).trans v73569
      have hfr : (∀ b j : Nat, (tag b ≠ 46 ∨ j ≠ 0) → (tag b ≠ 46 ∨ j ≠ 1) → (tag b ≠ 46 ∨ j ≠ 2) → (tag b ≠ 46 ∨ j ≠ 36) → fld F b j = fld Fo b j) ∧ (∀ b j : Nat, tag b ≠ 33 → tag b ≠ 43 → elm F b j = elm Fo b j) := ⟨fun b j n46_0 n46_1 n46_2 n46_36 => (yz73591.1 b j n46_1 n46_2).trans (hfr.1 b j n46_0 n46_1 n46_2 n46_36), fun b j a33 a43 => (yz73591.2 b j ).trans (hfr.2 b j a33 a43)⟩
      exact t_iret hQ X hT (⟨rg_all _, hfr⟩) (Nat.le_of_ble_eq_true rfl) (Nat.le_of_ble_eq_true rfl) dX13_order_22
set_option maxHeartbeats 4000000 in
set_option maxRecDepth 100000 in
theorem km233_X13_isWall (l : Launch) (G : KG) (tag : Nat → Nat) (L : List Nat) (F : Nat → va_E) (ho : okT G ttC tag L F) (p0 : Nat) (p1 : Int32) (m0 : p0 ∈ L) (g0 : tag p0 = 46) (pf0 : fld F p0 3 = .null) : TMi l yX13_isWall cX13_isWall 2 (some .boolean) { frames := 0, cells := 0, slots := 0, locals := 0 } G ttC tag L F [.ref p0, .int p1] (fun r F1 => F1 = F ∧ (0 ≤ r.toInt ∧ r.toInt ≤ 0)) := by
  refine t_bodyi (y := yX13_isWall) (cd := cX13_isWall) (mL := 2) (rt := (some .boolean)) (rm := { frames := 0, cells := 0, slots := 0, locals := 0 }) (av := [.ref p0, .int p1]) (by decide) (Nat.le_of_ble_eq_true rfl) ho ?_
  intro p e s m args below meth c ls A Q hQ X hT hl
  have hx := X.1.1
  have hb := X.1.2.1
  have hl : lv_has ls 2 [(0, .ref p0), (1, .int p1)] := hl
  have rp1 := rg_all p1
  refine lv_aload_n hx hb dX13_isWall_0 rfl (lv_at hl 0 rfl) ?_
  refine t_get (C := RX13) (T := TX13) (N := 37) X hT m0 g0 rfl rfl 3 (by decide) qw_481 inlX13 rfl dX13_isWall_1 (fun v73604 hv73604 ov73604 => ?_)
  obtain rfl : v73604 = .null := hv73604.symm.trans pf0
  refine lv_ifnullN (tgt := 26) hx hb dX13_isWall_4 (by decide) ?_
  refine lv_iconst (v := 0) hx hb dX13_isWall_26 (by decide) ?_
  have k73605 : (0 : Int32).toInt = 0 := by decide
  exact t_zret hQ X hT (by decide) (⟨rfl, (by decide)⟩) (Nat.le_of_ble_eq_true rfl) (Nat.le_of_ble_eq_true rfl) dX13_isWall_27
set_option maxHeartbeats 4000000 in
set_option maxRecDepth 100000 in
theorem km234_X13_order (l : Launch) (G : KG) (tag : Nat → Nat) (L : List Nat) (Fo : Nat → va_E) (ho : okT G ttC tag L Fo) (p0 : Nat) (p1 : Int32) (p2 : Int32) (m0 : p0 ∈ L) (g0 : tag p0 = 46) (pf0 : fld Fo p0 3 = .null) : TMi l yX13_order cX13_order 3 (some .int) { frames := 4, cells := 0, slots := 0, locals := 91 } G ttC tag L Fo [.ref p0, .int p1, .int p2] (fun r F1 => ((-2147483648) ≤ r.toInt ∧ r.toInt ≤ 2147483647) ∧ ((∀ b j : Nat, (tag b ≠ 46 ∨ j ≠ 0) → (tag b ≠ 46 ∨ j ≠ 1) → (tag b ≠ 46 ∨ j ≠ 2) → (tag b ≠ 46 ∨ j ≠ 36) → fld F1 b j = fld Fo b j) ∧ (∀ b j : Nat, tag b ≠ 33 → tag b ≠ 43 → elm F1 b j = elm Fo b j))) := by
  refine t_bodyi (y := yX13_order) (cd := cX13_order) (mL := 3) (rt := (some .int)) (rm := { frames := 4, cells := 0, slots := 0, locals := 91 }) (av := [.ref p0, .int p1, .int p2]) (by decide) (Nat.le_of_ble_eq_true rfl) ho ?_
  intro p e s m args below meth c ls A Q hQ X hT hl
  have hx := X.1.1
  have hb := X.1.2.1
  have hl : lv_has ls 3 [(0, .ref p0), (1, .int p1), (2, .int p2)] := hl
  have rp1 := rg_all p1
  have rp2 := rg_all p2
  obtain ⟨F, hFo⟩ : ∃ F : Nat → va_E, F = Fo := ⟨_, rfl⟩
  rw [← hFo] at hT pf0
  have hfr : (∀ b j : Nat, (tag b ≠ 46 ∨ j ≠ 0) → (tag b ≠ 46 ∨ j ≠ 1) → (tag b ≠ 46 ∨ j ≠ 2) → (tag b ≠ 46 ∨ j ≠ 36) → fld F b j = fld Fo b j) ∧ (∀ b j : Nat, tag b ≠ 33 → tag b ≠ 43 → elm F b j = elm Fo b j) := by
    rw [hFo]
    exact ⟨by intros; rfl, by intros; rfl⟩
  refine lv_aload_n hx hb dX13_order_0 rfl (lv_at hl 0 rfl) ?_
  refine lv_iconst (v := 0) hx hb dX13_order_1 (by decide) ?_
  refine t_put (C := RX13) (T := TX13) (N := 37) (v := .int 0) X hT m0 g0 rfl tyX13 tyX13_ok nmX13 rfl 0 (by decide) qw_140 inlX13 rfl (by first | rfl | decide) (by first | rfl | decide) rfl (⟨_, rfl, (show (-2147483648) ≤ (0 : Int32).toInt from (by decide)), (show (0 : Int32).toInt ≤ 2147483647 from (by decide))⟩) dX13_order_2 (fun F H locs hT v73671 h1v73671 h2v73671 => ?_)
  have pf0 := (h1v73671 _ _ (Or.inr (by decide))).trans pf0
  have hfr : (∀ b j : Nat, (tag b ≠ 46 ∨ j ≠ 0) → (tag b ≠ 46 ∨ j ≠ 1) → (tag b ≠ 46 ∨ j ≠ 2) → (tag b ≠ 46 ∨ j ≠ 36) → fld F b j = fld Fo b j) ∧ (∀ b j : Nat, tag b ≠ 33 → tag b ≠ 43 → elm F b j = elm Fo b j) := ⟨fun b j n46_0 n46_1 n46_2 n46_36 => (h1v73671 b j (fr_ne g0 n46_0)).trans (hfr.1 b j n46_0 n46_1 n46_2 n46_36), fun b j a33 a43 => (h2v73671 b j).trans (hfr.2 b j a33 a43)⟩
  refine lv_aload_n hx hb dX13_order_5 rfl (lv_at hl 0 rfl) ?_
  refine lv_iload_n hx hb dX13_order_6 rfl (lv_at hl 2 rfl) ?_
  refine t_cVi (n := 1) (C := RX13) (T := TX13) (N := 37) (As := [.int p2]) (rest := []) X hT (km233_X13_isWall l G tag L F hT.2.2.2 p0 p2 m0 g0 pf0) m0 g0 rfl rfl qw_1392 qw_1393 qw_1394 qw_5 qw_1395 ⟨rfl, by decide +kernel, by decide +kernel, by decide +kernel⟩ ⟨Nat.le_of_ble_eq_true rfl, Nat.le_of_ble_eq_true rfl⟩ hl rfl rfl (Nat.le_of_ble_eq_true rfl) dX13_order_7 ⟨Nat.le_of_ble_eq_true rfl, Nat.le_of_ble_eq_true rfl⟩ (fun z73672 F9 H locs hT hz73672 => ?_)
  obtain ⟨fz73672, hz73672⟩ := hz73672
  rw [fz73672] at hT
  refine lv_if_eq (tgt := 17) hx hb dX13_order_10 (by decide) (fun c73673 => ?_) (fun c73673 => ?_)
  · have w73674 := cv_eq (rfl : z73672.toInt = z73672.toInt) (by decide : (0 : Int32).toInt = 0) c73673
    refine lv_aload_n hx hb dX13_order_17 rfl (lv_at hl 0 rfl) ?_
    refine lv_iconst (v := 1) hx hb dX13_order_18 (by decide) ?_
    refine t_cVi (n := 1) (C := RX13) (T := TX13) (N := 37) (As := [.int 1]) (rest := []) X hT (km88_X13_refused l G tag L F hT.2.2.2 p0 1 m0 g0) m0 g0 rfl rfl qw_484 qw_485 qw_486 qw_5 qw_487 ⟨rfl, by decide +kernel, by decide +kernel, by decide +kernel⟩ ⟨Nat.le_of_ble_eq_true rfl, Nat.le_of_ble_eq_true rfl⟩ hl rfl rfl (Nat.le_of_ble_eq_true rfl) dX13_order_19 ⟨Nat.le_of_ble_eq_true rfl, Nat.le_of_ble_eq_true rfl⟩ (fun z73675 F H locs hT hz73675 => ?_)
    obtain ⟨hz73675, yz73675⟩ := hz73675
    have pf0 := (yz73675.1 _ 3 (Or.inr (by decide)) (Or.inr (by decide))).trans pf0
    have v73671 := (yz73675.1 _ 0 (Or.inr (by decide)) (Or.inr (by decide))).trans v73671
    have hfr : (∀ b j : Nat, (tag b ≠ 46 ∨ j ≠ 0) → (tag b ≠ 46 ∨ j ≠ 1) → (tag b ≠ 46 ∨ j ≠ 2) → (tag b ≠ 46 ∨ j ≠ 36) → fld F b j = fld Fo b j) ∧ (∀ b j : Nat, tag b ≠ 33 → tag b ≠ 43 → elm F b j = elm Fo b j) := ⟨fun b j n46_0 n46_1 n46_2 n46_36 => (yz73675.1 b j n46_1 n46_2).trans (hfr.1 b j n46_0 n46_1 n46_2 n46_36), fun b j a33 a43 => (yz73675.2 b j ).trans (hfr.2 b j a33 a43)⟩
    exact t_iret hQ X hT (⟨rg_all _, hfr⟩) (Nat.le_of_ble_eq_true rfl) (Nat.le_of_ble_eq_true rfl) dX13_order_22
  · have w73676 := cv_ne (rfl : z73672.toInt = z73672.toInt) (by decide : (0 : Int32).toInt = 0) c73673
    exfalso
    omega
theorem kp_X13_order (l : Launch) (G : KG) (tag : Nat → Nat) (L : List Nat) (Fo : Nat → va_E) (ho : okT G ttC tag L Fo) (p0 : Nat) (p1 : Int32) (p2 : Int32) (m0 : p0 ∈ L) (g0 : tag p0 = 46) : TMi l yX13_order cX13_order 3 (some .int) { frames := 4, cells := 0, slots := 0, locals := 91 } G ttC tag L Fo [.ref p0, .int p1, .int p2] (fun r F1 => ((-2147483648) ≤ r.toInt ∧ r.toInt ≤ 2147483647) ∧ ((∀ b j : Nat, (tag b ≠ 46 ∨ j ≠ 0) → (tag b ≠ 46 ∨ j ≠ 1) → (tag b ≠ 46 ∨ j ≠ 2) → (tag b ≠ 46 ∨ j ≠ 36) → fld F1 b j = fld Fo b j) ∧ (∀ b j : Nat, tag b ≠ 33 → tag b ≠ 43 → elm F1 b j = elm Fo b j))) := by
  rcases t_fldn ho m0 g0 rfl 3 rfl with h9 | ⟨b9, h9, m9, t9⟩
  · exact km234_X13_order l G tag L Fo ho p0 p1 p2  m0 g0 h9 
  · exact km232_X13_order l G tag L Fo ho p0 p1 p2 b9  m0 g0 m9 (tg_of t9) h9 
set_option maxHeartbeats 4000000 in
set_option maxRecDepth 100000 in
theorem km236_X13_soonest (l : Launch) (G : KG) (tag : Nat → Nat) (L : List Nat) (Fo : Nat → va_E) (ho : okT G ttC tag L Fo) (p0 : Nat) (p1 : Int32) (x0 : Nat) (m0 : p0 ∈ L) (g0 : tag p0 = 46) (mx0 : x0 ∈ L) (gx0 : tag x0 = 45) (pf0 : fld Fo p0 3 = .ref x0) : TMi l yX13_soonest cX13_soonest 2 (some .int) { frames := 4, cells := 0, slots := 0, locals := 91 } G ttC tag L Fo [.ref p0, .int p1] (fun r F1 => ((-2147483648) ≤ r.toInt ∧ r.toInt ≤ 2147483647) ∧ ((∀ b j : Nat, (tag b ≠ 46 ∨ j ≠ 0) → (tag b ≠ 46 ∨ j ≠ 1) → (tag b ≠ 46 ∨ j ≠ 2) → (tag b ≠ 46 ∨ j ≠ 36) → fld F1 b j = fld Fo b j) ∧ (∀ b j : Nat, tag b ≠ 33 → tag b ≠ 43 → elm F1 b j = elm Fo b j))) := by
  refine t_bodyi (y := yX13_soonest) (cd := cX13_soonest) (mL := 2) (rt := (some .int)) (rm := { frames := 4, cells := 0, slots := 0, locals := 91 }) (av := [.ref p0, .int p1]) (by decide) (Nat.le_of_ble_eq_true rfl) ho ?_
  intro p e s m args below meth c ls A Q hQ X hT hl
  have hx := X.1.1
  have hb := X.1.2.1
  have hl : lv_has ls 2 [(0, .ref p0), (1, .int p1)] := hl
  have rp1 := rg_all p1
  obtain ⟨F, hFo⟩ : ∃ F : Nat → va_E, F = Fo := ⟨_, rfl⟩
  rw [← hFo] at hT pf0
  have hfr : (∀ b j : Nat, (tag b ≠ 46 ∨ j ≠ 0) → (tag b ≠ 46 ∨ j ≠ 1) → (tag b ≠ 46 ∨ j ≠ 2) → (tag b ≠ 46 ∨ j ≠ 36) → fld F b j = fld Fo b j) ∧ (∀ b j : Nat, tag b ≠ 33 → tag b ≠ 43 → elm F b j = elm Fo b j) := by
    rw [hFo]
    exact ⟨by intros; rfl, by intros; rfl⟩
  refine lv_aload_n hx hb dX13_soonest_0 rfl (lv_at hl 0 rfl) ?_
  refine lv_iconst (v := 0) hx hb dX13_soonest_1 (by decide) ?_
  refine t_put (C := RX13) (T := TX13) (N := 37) (v := .int 0) X hT m0 g0 rfl tyX13 tyX13_ok nmX13 rfl 0 (by decide) qw_140 inlX13 rfl (by first | rfl | decide) (by first | rfl | decide) rfl (⟨_, rfl, (show (-2147483648) ≤ (0 : Int32).toInt from (by decide)), (show (0 : Int32).toInt ≤ 2147483647 from (by decide))⟩) dX13_soonest_2 (fun F H locs hT v73820 h1v73820 h2v73820 => ?_)
  have pf0 := (h1v73820 _ _ (Or.inr (by decide))).trans pf0
  have hfr : (∀ b j : Nat, (tag b ≠ 46 ∨ j ≠ 0) → (tag b ≠ 46 ∨ j ≠ 1) → (tag b ≠ 46 ∨ j ≠ 2) → (tag b ≠ 46 ∨ j ≠ 36) → fld F b j = fld Fo b j) ∧ (∀ b j : Nat, tag b ≠ 33 → tag b ≠ 43 → elm F b j = elm Fo b j) := ⟨fun b j n46_0 n46_1 n46_2 n46_36 => (h1v73820 b j (fr_ne g0 n46_0)).trans (hfr.1 b j n46_0 n46_1 n46_2 n46_36), fun b j a33 a43 => (h2v73820 b j).trans (hfr.2 b j a33 a43)⟩
  refine lv_aload_n hx hb dX13_soonest_5 rfl (lv_at hl 0 rfl) ?_
  refine lv_iload_n hx hb dX13_soonest_6 rfl (lv_at hl 1 rfl) ?_
  refine t_cVi (n := 1) (C := RX13) (T := TX13) (N := 37) (As := [.int p1]) (rest := []) X hT (km231_X13_isWall l G tag L F hT.2.2.2 p0 p1 x0 m0 g0 mx0 gx0 pf0) m0 g0 rfl rfl qw_1392 qw_1393 qw_1394 qw_5 qw_1395 ⟨rfl, by decide +kernel, by decide +kernel, by decide +kernel⟩ ⟨Nat.le_of_ble_eq_true rfl, Nat.le_of_ble_eq_true rfl⟩ hl rfl rfl (Nat.le_of_ble_eq_true rfl) dX13_soonest_7 ⟨Nat.le_of_ble_eq_true rfl, Nat.le_of_ble_eq_true rfl⟩ (fun z73821 F9 H locs hT hz73821 => ?_)
  obtain ⟨fz73821, hz73821⟩ := hz73821
  rw [fz73821] at hT
  obtain ⟨hz73821, iz73821⟩ := hz73821
  refine lv_if_ne (tgt := 19) hx hb dX13_soonest_10 (by decide) (fun c73822 => ?_) (fun c73822 => ?_)
  · have w73823 := cv_ne (rfl : z73821.toInt = z73821.toInt) (by decide : (0 : Int32).toInt = 0) c73822
    have w73824 := (fun h => (iz73821 h)) (by omega)
    refine lv_aload_n hx hb dX13_soonest_19 rfl (lv_at hl 0 rfl) ?_
    refine lv_iconst (v := (-1)) hx hb dX13_soonest_20 (by decide) ?_
    obtain ⟨z73825, qz73825, mz73825, gz73825⟩ := t_fldr hT m0 g0 rfl 29 rfl
    have gz73825 : tag z73825 = 43 := tg_of gz73825
    refine t_cVv (n := 1) (C := RX13) (T := TX13) (N := 37) (As := [.int (-1)]) (rest := []) X hT (km227_X13_findsOrders l G tag L F hT.2.2.2 p0 (-1) x0 z73825 m0 g0 mx0 gx0 pf0 mz73825 gz73825 qz73825) m0 g0 rfl rfl qw_1362 qw_1363 qw_1364 qw_5 qw_1365 ⟨rfl, by decide +kernel, by decide +kernel, by decide +kernel⟩ ⟨Nat.le_of_ble_eq_true rfl, Nat.le_of_ble_eq_true rfl⟩ hl rfl rfl (Nat.le_of_ble_eq_true rfl) dX13_soonest_21 ⟨Nat.le_of_ble_eq_true rfl, Nat.le_of_ble_eq_true rfl⟩ (fun F H locs hT hz73826 => ?_)
    have yz73826 := hz73826
    have pf0 := (yz73826.1 _ 3 (Or.inr (by decide))).trans pf0
    have v73820 := (yz73826.1 _ 0 (Or.inr (by decide))).trans v73820
    have qz73825 := (yz73826.1 _ 29 (Or.inr (by decide))).trans qz73825
    have hfr : (∀ b j : Nat, (tag b ≠ 46 ∨ j ≠ 0) → (tag b ≠ 46 ∨ j ≠ 1) → (tag b ≠ 46 ∨ j ≠ 2) → (tag b ≠ 46 ∨ j ≠ 36) → fld F b j = fld Fo b j) ∧ (∀ b j : Nat, tag b ≠ 33 → tag b ≠ 43 → elm F b j = elm Fo b j) := ⟨fun b j n46_0 n46_1 n46_2 n46_36 => (yz73826.1 b j n46_36).trans (hfr.1 b j n46_0 n46_1 n46_2 n46_36), fun b j a33 a43 => (yz73826.2 b j a33 a43).trans (hfr.2 b j a33 a43)⟩
    refine lv_aload_n hx hb dX13_soonest_24 rfl (lv_at hl 0 rfl) ?_
    refine lv_aload_n hx hb dX13_soonest_25 rfl (lv_at hl 0 rfl) ?_
    refine t_get (C := RX13) (T := TX13) (N := 37) X hT m0 g0 rfl rfl 30 (by decide) qw_121 inlX13 rfl dX13_soonest_26 (fun v73827 hv73827 ov73827 => ?_)
    obtain ⟨b73828, rfl, mb73828, gb73828⟩ := okV_r ov73827
    have gb73828 : tag b73828 = 33 := tg_of gb73828
    refine lv_iload_n hx hb dX13_soonest_29 rfl (lv_at hl 1 rfl) ?_
    refine t_ild X hT mb73828 gb73828 rfl (by omega) dX13_soonest_30 (fun z73829 vz73829 rz73829 => ?_)
    have rz73829 : (-2147483648) ≤ z73829.toInt ∧ z73829.toInt ≤ 2147483647 := rz73829
    refine t_cVi (n := 1) (C := RX13) (T := TX13) (N := 37) (As := [.int z73829]) (rest := []) X hT (km93_X13_good l G tag L F hT.2.2.2 p0 z73829 m0 g0) m0 g0 rfl rfl qw_687 qw_688 qw_689 qw_5 qw_690 ⟨rfl, by decide +kernel, by decide +kernel, by decide +kernel⟩ ⟨Nat.le_of_ble_eq_true rfl, Nat.le_of_ble_eq_true rfl⟩ hl rfl rfl (Nat.le_of_ble_eq_true rfl) dX13_soonest_31 ⟨Nat.le_of_ble_eq_true rfl, Nat.le_of_ble_eq_true rfl⟩ (fun z73830 F H locs hT hz73830 => ?_)
    obtain ⟨hz73830, yz73830⟩ := hz73830
    have pf0 := (yz73830.1 _ 3 (Or.inr (by decide)) (Or.inr (by decide))).trans pf0
    have v73820 := (yz73830.1 _ 0 (Or.inr (by decide)) (Or.inr (by decide))).trans v73820
    have qz73825 := (yz73830.1 _ 29 (Or.inr (by decide)) (Or.inr (by decide))).trans qz73825
    have hv73827 := (yz73830.1 _ 30 (Or.inr (by decide)) (Or.inr (by decide))).trans hv73827
    have vz73829 := (yz73830.2 _ _ ).trans vz73829
    have hfr : (∀ b j : Nat, (tag b ≠ 46 ∨ j ≠ 0) → (tag b ≠ 46 ∨ j ≠ 1) → (tag b ≠ 46 ∨ j ≠ 2) → (tag b ≠ 46 ∨ j ≠ 36) → fld F b j = fld Fo b j) ∧ (∀ b j : Nat, tag b ≠ 33 → tag b ≠ 43 → elm F b j = elm Fo b j) := ⟨fun b j n46_0 n46_1 n46_2 n46_36 => (yz73830.1 b j n46_1 n46_2).trans (hfr.1 b j n46_0 n46_1 n46_2 n46_36), fun b j a33 a43 => (yz73830.2 b j ).trans (hfr.2 b j a33 a43)⟩
    exact t_iret hQ X hT (⟨rg_all _, hfr⟩) (Nat.le_of_ble_eq_true rfl) (Nat.le_of_ble_eq_true rfl) dX13_soonest_34
  · have w73831 := cv_eq (rfl : z73821.toInt = z73821.toInt) (by decide : (0 : Int32).toInt = 0) c73822
    refine lv_aload_n hx hb dX13_soonest_13 rfl (lv_at hl 0 rfl) ?_
    refine lv_iconst (v := 1) hx hb dX13_soonest_14 (by decide) ?_
    refine t_cVi (n := 1) (C := RX13) (T := TX13) (N := 37) (As := [.int 1]) (rest := []) X hT (km88_X13_refused l G tag L F hT.2.2.2 p0 1 m0 g0) m0 g0 rfl rfl qw_484 qw_485 qw_486 qw_5 qw_487 ⟨rfl, by decide +kernel, by decide +kernel, by decide +kernel⟩ ⟨Nat.le_of_ble_eq_true rfl, Nat.le_of_ble_eq_true rfl⟩ hl rfl rfl (Nat.le_of_ble_eq_true rfl) dX13_soonest_15 ⟨Nat.le_of_ble_eq_true rfl, Nat.le_of_ble_eq_true rfl⟩ (fun z73832 F H locs hT hz73832 => ?_)
    obtain ⟨hz73832, yz73832⟩ := hz73832
    have pf0 := (yz73832.1 _ 3 (Or.inr (by decide)) (Or.inr (by decide))).trans pf0
    have v73820 := (yz73832.1 _ 0 (Or.inr (by decide)) (Or.inr (by decide))).trans v73820
    have hfr : (∀ b j : Nat, (tag b ≠ 46 ∨ j ≠ 0) → (tag b ≠ 46 ∨ j ≠ 1) → (tag b ≠ 46 ∨ j ≠ 2) → (tag b ≠ 46 ∨ j ≠ 36) → fld F b j = fld Fo b j) ∧ (∀ b j : Nat, tag b ≠ 33 → tag b ≠ 43 → elm F b j = elm Fo b j) := ⟨fun b j n46_0 n46_1 n46_2 n46_36 => (yz73832.1 b j n46_1 n46_2).trans (hfr.1 b j n46_0 n46_1 n46_2 n46_36), fun b j a33 a43 => (yz73832.2 b j ).trans (hfr.2 b j a33 a43)⟩
    exact t_iret hQ X hT (⟨rg_all _, hfr⟩) (Nat.le_of_ble_eq_true rfl) (Nat.le_of_ble_eq_true rfl) dX13_soonest_18
set_option maxHeartbeats 4000000 in
set_option maxRecDepth 100000 in
theorem km237_X13_soonest (l : Launch) (G : KG) (tag : Nat → Nat) (L : List Nat) (Fo : Nat → va_E) (ho : okT G ttC tag L Fo) (p0 : Nat) (p1 : Int32) (m0 : p0 ∈ L) (g0 : tag p0 = 46) (pf0 : fld Fo p0 3 = .null) : TMi l yX13_soonest cX13_soonest 2 (some .int) { frames := 4, cells := 0, slots := 0, locals := 91 } G ttC tag L Fo [.ref p0, .int p1] (fun r F1 => ((-2147483648) ≤ r.toInt ∧ r.toInt ≤ 2147483647) ∧ ((∀ b j : Nat, (tag b ≠ 46 ∨ j ≠ 0) → (tag b ≠ 46 ∨ j ≠ 1) → (tag b ≠ 46 ∨ j ≠ 2) → (tag b ≠ 46 ∨ j ≠ 36) → fld F1 b j = fld Fo b j) ∧ (∀ b j : Nat, tag b ≠ 33 → tag b ≠ 43 → elm F1 b j = elm Fo b j))) := by
  refine t_bodyi (y := yX13_soonest) (cd := cX13_soonest) (mL := 2) (rt := (some .int)) (rm := { frames := 4, cells := 0, slots := 0, locals := 91 }) (av := [.ref p0, .int p1]) (by decide) (Nat.le_of_ble_eq_true rfl) ho ?_
  intro p e s m args below meth c ls A Q hQ X hT hl
  have hx := X.1.1
  have hb := X.1.2.1
  have hl : lv_has ls 2 [(0, .ref p0), (1, .int p1)] := hl
  have rp1 := rg_all p1
  obtain ⟨F, hFo⟩ : ∃ F : Nat → va_E, F = Fo := ⟨_, rfl⟩
  rw [← hFo] at hT pf0
  have hfr : (∀ b j : Nat, (tag b ≠ 46 ∨ j ≠ 0) → (tag b ≠ 46 ∨ j ≠ 1) → (tag b ≠ 46 ∨ j ≠ 2) → (tag b ≠ 46 ∨ j ≠ 36) → fld F b j = fld Fo b j) ∧ (∀ b j : Nat, tag b ≠ 33 → tag b ≠ 43 → elm F b j = elm Fo b j) := by
    rw [hFo]
    exact ⟨by intros; rfl, by intros; rfl⟩
  refine lv_aload_n hx hb dX13_soonest_0 rfl (lv_at hl 0 rfl) ?_
  refine lv_iconst (v := 0) hx hb dX13_soonest_1 (by decide) ?_
  refine t_put (C := RX13) (T := TX13) (N := 37) (v := .int 0) X hT m0 g0 rfl tyX13 tyX13_ok nmX13 rfl 0 (by decide) qw_140 inlX13 rfl (by first | rfl | decide) (by first | rfl | decide) rfl (⟨_, rfl, (show (-2147483648) ≤ (0 : Int32).toInt from (by decide)), (show (0 : Int32).toInt ≤ 2147483647 from (by decide))⟩) dX13_soonest_2 (fun F H locs hT v73899 h1v73899 h2v73899 => ?_)
  have pf0 := (h1v73899 _ _ (Or.inr (by decide))).trans pf0
  have hfr : (∀ b j : Nat, (tag b ≠ 46 ∨ j ≠ 0) → (tag b ≠ 46 ∨ j ≠ 1) → (tag b ≠ 46 ∨ j ≠ 2) → (tag b ≠ 46 ∨ j ≠ 36) → fld F b j = fld Fo b j) ∧ (∀ b j : Nat, tag b ≠ 33 → tag b ≠ 43 → elm F b j = elm Fo b j) := ⟨fun b j n46_0 n46_1 n46_2 n46_36 => (h1v73899 b j (fr_ne g0 n46_0)).trans (hfr.1 b j n46_0 n46_1 n46_2 n46_36), fun b j a33 a43 => (h2v73899 b j).trans (hfr.2 b j a33 a43)⟩
  refine lv_aload_n hx hb dX13_soonest_5 rfl (lv_at hl 0 rfl) ?_
  refine lv_iload_n hx hb dX13_soonest_6 rfl (lv_at hl 1 rfl) ?_
  refine t_cVi (n := 1) (C := RX13) (T := TX13) (N := 37) (As := [.int p1]) (rest := []) X hT (km233_X13_isWall l G tag L F hT.2.2.2 p0 p1 m0 g0 pf0) m0 g0 rfl rfl qw_1392 qw_1393 qw_1394 qw_5 qw_1395 ⟨rfl, by decide +kernel, by decide +kernel, by decide +kernel⟩ ⟨Nat.le_of_ble_eq_true rfl, Nat.le_of_ble_eq_true rfl⟩ hl rfl rfl (Nat.le_of_ble_eq_true rfl) dX13_soonest_7 ⟨Nat.le_of_ble_eq_true rfl, Nat.le_of_ble_eq_true rfl⟩ (fun z73900 F9 H locs hT hz73900 => ?_)
  obtain ⟨fz73900, hz73900⟩ := hz73900
  rw [fz73900] at hT
  refine lv_if_ne (tgt := 19) hx hb dX13_soonest_10 (by decide) (fun c73901 => ?_) (fun c73901 => ?_)
  · have w73902 := cv_ne (rfl : z73900.toInt = z73900.toInt) (by decide : (0 : Int32).toInt = 0) c73901
    exfalso
    omega
  · have w73903 := cv_eq (rfl : z73900.toInt = z73900.toInt) (by decide : (0 : Int32).toInt = 0) c73901
    refine lv_aload_n hx hb dX13_soonest_13 rfl (lv_at hl 0 rfl) ?_
    refine lv_iconst (v := 1) hx hb dX13_soonest_14 (by decide) ?_
    refine t_cVi (n := 1) (C := RX13) (T := TX13) (N := 37) (As := [.int 1]) (rest := []) X hT (km88_X13_refused l G tag L F hT.2.2.2 p0 1 m0 g0) m0 g0 rfl rfl qw_484 qw_485 qw_486 qw_5 qw_487 ⟨rfl, by decide +kernel, by decide +kernel, by decide +kernel⟩ ⟨Nat.le_of_ble_eq_true rfl, Nat.le_of_ble_eq_true rfl⟩ hl rfl rfl (Nat.le_of_ble_eq_true rfl) dX13_soonest_15 ⟨Nat.le_of_ble_eq_true rfl, Nat.le_of_ble_eq_true rfl⟩ (fun z73904 F H locs hT hz73904 => ?_)
    obtain ⟨hz73904, yz73904⟩ := hz73904
    have pf0 := (yz73904.1 _ 3 (Or.inr (by decide)) (Or.inr (by decide))).trans pf0
    have v73899 := (yz73904.1 _ 0 (Or.inr (by decide)) (Or.inr (by decide))).trans v73899
    have hfr : (∀ b j : Nat, (tag b ≠ 46 ∨ j ≠ 0) → (tag b ≠ 46 ∨ j ≠ 1) → (tag b ≠ 46 ∨ j ≠ 2) → (tag b ≠ 46 ∨ j ≠ 36) → fld F b j = fld Fo b j) ∧ (∀ b j : Nat, tag b ≠ 33 → tag b ≠ 43 → elm F b j = elm Fo b j) := ⟨fun b j n46_0 n46_1 n46_2 n46_36 => (yz73904.1 b j n46_1 n46_2).trans (hfr.1 b j n46_0 n46_1 n46_2 n46_36), fun b j a33 a43 => (yz73904.2 b j ).trans (hfr.2 b j a33 a43)⟩
    exact t_iret hQ X hT (⟨rg_all _, hfr⟩) (Nat.le_of_ble_eq_true rfl) (Nat.le_of_ble_eq_true rfl) dX13_soonest_18
theorem kp_X13_soonest (l : Launch) (G : KG) (tag : Nat → Nat) (L : List Nat) (Fo : Nat → va_E) (ho : okT G ttC tag L Fo) (p0 : Nat) (p1 : Int32) (m0 : p0 ∈ L) (g0 : tag p0 = 46) : TMi l yX13_soonest cX13_soonest 2 (some .int) { frames := 4, cells := 0, slots := 0, locals := 91 } G ttC tag L Fo [.ref p0, .int p1] (fun r F1 => ((-2147483648) ≤ r.toInt ∧ r.toInt ≤ 2147483647) ∧ ((∀ b j : Nat, (tag b ≠ 46 ∨ j ≠ 0) → (tag b ≠ 46 ∨ j ≠ 1) → (tag b ≠ 46 ∨ j ≠ 2) → (tag b ≠ 46 ∨ j ≠ 36) → fld F1 b j = fld Fo b j) ∧ (∀ b j : Nat, tag b ≠ 33 → tag b ≠ 43 → elm F1 b j = elm Fo b j))) := by
  rcases t_fldn ho m0 g0 rfl 3 rfl with h9 | ⟨b9, h9, m9, t9⟩
  · exact km237_X13_soonest l G tag L Fo ho p0 p1  m0 g0 h9 
  · exact km236_X13_soonest l G tag L Fo ho p0 p1 b9  m0 g0 m9 (tg_of t9) h9 
set_option maxHeartbeats 4000000 in
set_option maxRecDepth 100000 in
theorem km239_X13_latest (l : Launch) (G : KG) (tag : Nat → Nat) (L : List Nat) (Fo : Nat → va_E) (ho : okT G ttC tag L Fo) (p0 : Nat) (p1 : Int32) (x0 : Nat) (m0 : p0 ∈ L) (g0 : tag p0 = 46) (mx0 : x0 ∈ L) (gx0 : tag x0 = 45) (pf0 : fld Fo p0 3 = .ref x0) : TMi l yX13_latest cX13_latest 2 (some .int) { frames := 4, cells := 0, slots := 0, locals := 91 } G ttC tag L Fo [.ref p0, .int p1] (fun r F1 => ((-2147483648) ≤ r.toInt ∧ r.toInt ≤ 2147483647) ∧ ((∀ b j : Nat, (tag b ≠ 46 ∨ j ≠ 0) → (tag b ≠ 46 ∨ j ≠ 1) → (tag b ≠ 46 ∨ j ≠ 2) → (tag b ≠ 46 ∨ j ≠ 36) → fld F1 b j = fld Fo b j) ∧ (∀ b j : Nat, tag b ≠ 33 → tag b ≠ 43 → elm F1 b j = elm Fo b j))) := by
  refine t_bodyi (y := yX13_latest) (cd := cX13_latest) (mL := 2) (rt := (some .int)) (rm := { frames := 4, cells := 0, slots := 0, locals := 91 }) (av := [.ref p0, .int p1]) (by decide) (Nat.le_of_ble_eq_true rfl) ho ?_
  intro p e s m args below meth c ls A Q hQ X hT hl
  have hx := X.1.1
  have hb := X.1.2.1
  have hl : lv_has ls 2 [(0, .ref p0), (1, .int p1)] := hl
  have rp1 := rg_all p1
  obtain ⟨F, hFo⟩ : ∃ F : Nat → va_E, F = Fo := ⟨_, rfl⟩
  rw [← hFo] at hT pf0
  have hfr : (∀ b j : Nat, (tag b ≠ 46 ∨ j ≠ 0) → (tag b ≠ 46 ∨ j ≠ 1) → (tag b ≠ 46 ∨ j ≠ 2) → (tag b ≠ 46 ∨ j ≠ 36) → fld F b j = fld Fo b j) ∧ (∀ b j : Nat, tag b ≠ 33 → tag b ≠ 43 → elm F b j = elm Fo b j) := by
    rw [hFo]
    exact ⟨by intros; rfl, by intros; rfl⟩
  refine lv_aload_n hx hb dX13_latest_0 rfl (lv_at hl 0 rfl) ?_
  refine lv_iconst (v := 0) hx hb dX13_latest_1 (by decide) ?_
  refine t_put (C := RX13) (T := TX13) (N := 37) (v := .int 0) X hT m0 g0 rfl tyX13 tyX13_ok nmX13 rfl 0 (by decide) qw_140 inlX13 rfl (by first | rfl | decide) (by first | rfl | decide) rfl (⟨_, rfl, (show (-2147483648) ≤ (0 : Int32).toInt from (by decide)), (show (0 : Int32).toInt ≤ 2147483647 from (by decide))⟩) dX13_latest_2 (fun F H locs hT v74048 h1v74048 h2v74048 => ?_)
  have pf0 := (h1v74048 _ _ (Or.inr (by decide))).trans pf0
  have hfr : (∀ b j : Nat, (tag b ≠ 46 ∨ j ≠ 0) → (tag b ≠ 46 ∨ j ≠ 1) → (tag b ≠ 46 ∨ j ≠ 2) → (tag b ≠ 46 ∨ j ≠ 36) → fld F b j = fld Fo b j) ∧ (∀ b j : Nat, tag b ≠ 33 → tag b ≠ 43 → elm F b j = elm Fo b j) := ⟨fun b j n46_0 n46_1 n46_2 n46_36 => (h1v74048 b j (fr_ne g0 n46_0)).trans (hfr.1 b j n46_0 n46_1 n46_2 n46_36), fun b j a33 a43 => (h2v74048 b j).trans (hfr.2 b j a33 a43)⟩
  refine lv_aload_n hx hb dX13_latest_5 rfl (lv_at hl 0 rfl) ?_
  refine lv_iload_n hx hb dX13_latest_6 rfl (lv_at hl 1 rfl) ?_
  refine t_cVi (n := 1) (C := RX13) (T := TX13) (N := 37) (As := [.int p1]) (rest := []) X hT (km231_X13_isWall l G tag L F hT.2.2.2 p0 p1 x0 m0 g0 mx0 gx0 pf0) m0 g0 rfl rfl qw_1392 qw_1393 qw_1394 qw_5 qw_1395 ⟨rfl, by decide +kernel, by decide +kernel, by decide +kernel⟩ ⟨Nat.le_of_ble_eq_true rfl, Nat.le_of_ble_eq_true rfl⟩ hl rfl rfl (Nat.le_of_ble_eq_true rfl) dX13_latest_7 ⟨Nat.le_of_ble_eq_true rfl, Nat.le_of_ble_eq_true rfl⟩ (fun z74049 F9 H locs hT hz74049 => ?_)
  obtain ⟨fz74049, hz74049⟩ := hz74049
  rw [fz74049] at hT
  obtain ⟨hz74049, iz74049⟩ := hz74049
  refine lv_if_ne (tgt := 19) hx hb dX13_latest_10 (by decide) (fun c74050 => ?_) (fun c74050 => ?_)
  · have w74051 := cv_ne (rfl : z74049.toInt = z74049.toInt) (by decide : (0 : Int32).toInt = 0) c74050
    have w74052 := (fun h => (iz74049 h)) (by omega)
    refine lv_aload_n hx hb dX13_latest_19 rfl (lv_at hl 0 rfl) ?_
    refine lv_iconst (v := (-1)) hx hb dX13_latest_20 (by decide) ?_
    obtain ⟨z74053, qz74053, mz74053, gz74053⟩ := t_fldr hT m0 g0 rfl 29 rfl
    have gz74053 : tag z74053 = 43 := tg_of gz74053
    refine t_cVv (n := 1) (C := RX13) (T := TX13) (N := 37) (As := [.int (-1)]) (rest := []) X hT (km227_X13_findsOrders l G tag L F hT.2.2.2 p0 (-1) x0 z74053 m0 g0 mx0 gx0 pf0 mz74053 gz74053 qz74053) m0 g0 rfl rfl qw_1362 qw_1363 qw_1364 qw_5 qw_1365 ⟨rfl, by decide +kernel, by decide +kernel, by decide +kernel⟩ ⟨Nat.le_of_ble_eq_true rfl, Nat.le_of_ble_eq_true rfl⟩ hl rfl rfl (Nat.le_of_ble_eq_true rfl) dX13_latest_21 ⟨Nat.le_of_ble_eq_true rfl, Nat.le_of_ble_eq_true rfl⟩ (fun F H locs hT hz74054 => ?_)
    have yz74054 := hz74054
    have pf0 := (yz74054.1 _ 3 (Or.inr (by decide))).trans pf0
    have v74048 := (yz74054.1 _ 0 (Or.inr (by decide))).trans v74048
    have qz74053 := (yz74054.1 _ 29 (Or.inr (by decide))).trans qz74053
    have hfr : (∀ b j : Nat, (tag b ≠ 46 ∨ j ≠ 0) → (tag b ≠ 46 ∨ j ≠ 1) → (tag b ≠ 46 ∨ j ≠ 2) → (tag b ≠ 46 ∨ j ≠ 36) → fld F b j = fld Fo b j) ∧ (∀ b j : Nat, tag b ≠ 33 → tag b ≠ 43 → elm F b j = elm Fo b j) := ⟨fun b j n46_0 n46_1 n46_2 n46_36 => (yz74054.1 b j n46_36).trans (hfr.1 b j n46_0 n46_1 n46_2 n46_36), fun b j a33 a43 => (yz74054.2 b j a33 a43).trans (hfr.2 b j a33 a43)⟩
    refine lv_aload_n hx hb dX13_latest_24 rfl (lv_at hl 0 rfl) ?_
    refine lv_aload_n hx hb dX13_latest_25 rfl (lv_at hl 0 rfl) ?_
    refine t_get (C := RX13) (T := TX13) (N := 37) X hT m0 g0 rfl rfl 31 (by decide) qw_122 inlX13 rfl dX13_latest_26 (fun v74055 hv74055 ov74055 => ?_)
    obtain ⟨b74056, rfl, mb74056, gb74056⟩ := okV_r ov74055
    have gb74056 : tag b74056 = 33 := tg_of gb74056
    refine lv_iload_n hx hb dX13_latest_29 rfl (lv_at hl 1 rfl) ?_
    refine t_ild X hT mb74056 gb74056 rfl (by omega) dX13_latest_30 (fun z74057 vz74057 rz74057 => ?_)
    have rz74057 : (-2147483648) ≤ z74057.toInt ∧ z74057.toInt ≤ 2147483647 := rz74057
    refine t_cVi (n := 1) (C := RX13) (T := TX13) (N := 37) (As := [.int z74057]) (rest := []) X hT (km93_X13_good l G tag L F hT.2.2.2 p0 z74057 m0 g0) m0 g0 rfl rfl qw_687 qw_688 qw_689 qw_5 qw_690 ⟨rfl, by decide +kernel, by decide +kernel, by decide +kernel⟩ ⟨Nat.le_of_ble_eq_true rfl, Nat.le_of_ble_eq_true rfl⟩ hl rfl rfl (Nat.le_of_ble_eq_true rfl) dX13_latest_31 ⟨Nat.le_of_ble_eq_true rfl, Nat.le_of_ble_eq_true rfl⟩ (fun z74058 F H locs hT hz74058 => ?_)
    obtain ⟨hz74058, yz74058⟩ := hz74058
    have pf0 := (yz74058.1 _ 3 (Or.inr (by decide)) (Or.inr (by decide))).trans pf0
    have v74048 := (yz74058.1 _ 0 (Or.inr (by decide)) (Or.inr (by decide))).trans v74048
    have qz74053 := (yz74058.1 _ 29 (Or.inr (by decide)) (Or.inr (by decide))).trans qz74053
    have hv74055 := (yz74058.1 _ 31 (Or.inr (by decide)) (Or.inr (by decide))).trans hv74055
    have vz74057 := (yz74058.2 _ _ ).trans vz74057
    have hfr : (∀ b j : Nat, (tag b ≠ 46 ∨ j ≠ 0) → (tag b ≠ 46 ∨ j ≠ 1) → (tag b ≠ 46 ∨ j ≠ 2) → (tag b ≠ 46 ∨ j ≠ 36) → fld F b j = fld Fo b j) ∧ (∀ b j : Nat, tag b ≠ 33 → tag b ≠ 43 → elm F b j = elm Fo b j) := ⟨fun b j n46_0 n46_1 n46_2 n46_36 => (yz74058.1 b j n46_1 n46_2).trans (hfr.1 b j n46_0 n46_1 n46_2 n46_36), fun b j a33 a43 => (yz74058.2 b j ).trans (hfr.2 b j a33 a43)⟩
    exact t_iret hQ X hT (⟨rg_all _, hfr⟩) (Nat.le_of_ble_eq_true rfl) (Nat.le_of_ble_eq_true rfl) dX13_latest_34
  · have w74059 := cv_eq (rfl : z74049.toInt = z74049.toInt) (by decide : (0 : Int32).toInt = 0) c74050
    refine lv_aload_n hx hb dX13_latest_13 rfl (lv_at hl 0 rfl) ?_
    refine lv_iconst (v := 1) hx hb dX13_latest_14 (by decide) ?_
    refine t_cVi (n := 1) (C := RX13) (T := TX13) (N := 37) (As := [.int 1]) (rest := []) X hT (km88_X13_refused l G tag L F hT.2.2.2 p0 1 m0 g0) m0 g0 rfl rfl qw_484 qw_485 qw_486 qw_5 qw_487 ⟨rfl, by decide +kernel, by decide +kernel, by decide +kernel⟩ ⟨Nat.le_of_ble_eq_true rfl, Nat.le_of_ble_eq_true rfl⟩ hl rfl rfl (Nat.le_of_ble_eq_true rfl) dX13_latest_15 ⟨Nat.le_of_ble_eq_true rfl, Nat.le_of_ble_eq_true rfl⟩ (fun z74060 F H locs hT hz74060 => ?_)
    obtain ⟨hz74060, yz74060⟩ := hz74060
    have pf0 := (yz74060.1 _ 3 (Or.inr (by decide)) (Or.inr (by decide))).trans pf0
    have v74048 := (yz74060.1 _ 0 (Or.inr (by decide)) (Or.inr (by decide))).trans v74048
    have hfr : (∀ b j : Nat, (tag b ≠ 46 ∨ j ≠ 0) → (tag b ≠ 46 ∨ j ≠ 1) → (tag b ≠ 46 ∨ j ≠ 2) → (tag b ≠ 46 ∨ j ≠ 36) → fld F b j = fld Fo b j) ∧ (∀ b j : Nat, tag b ≠ 33 → tag b ≠ 43 → elm F b j = elm Fo b j) := ⟨fun b j n46_0 n46_1 n46_2 n46_36 => (yz74060.1 b j n46_1 n46_2).trans (hfr.1 b j n46_0 n46_1 n46_2 n46_36), fun b j a33 a43 => (yz74060.2 b j ).trans (hfr.2 b j a33 a43)⟩
    exact t_iret hQ X hT (⟨rg_all _, hfr⟩) (Nat.le_of_ble_eq_true rfl) (Nat.le_of_ble_eq_true rfl) dX13_latest_18
set_option maxHeartbeats 4000000 in
set_option maxRecDepth 100000 in
theorem km240_X13_latest (l : Launch) (G : KG) (tag : Nat → Nat) (L : List Nat) (Fo : Nat → va_E) (ho : okT G ttC tag L Fo) (p0 : Nat) (p1 : Int32) (m0 : p0 ∈ L) (g0 : tag p0 = 46) (pf0 : fld Fo p0 3 = .null) : TMi l yX13_latest cX13_latest 2 (some .int) { frames := 4, cells := 0, slots := 0, locals := 91 } G ttC tag L Fo [.ref p0, .int p1] (fun r F1 => ((-2147483648) ≤ r.toInt ∧ r.toInt ≤ 2147483647) ∧ ((∀ b j : Nat, (tag b ≠ 46 ∨ j ≠ 0) → (tag b ≠ 46 ∨ j ≠ 1) → (tag b ≠ 46 ∨ j ≠ 2) → (tag b ≠ 46 ∨ j ≠ 36) → fld F1 b j = fld Fo b j) ∧ (∀ b j : Nat, tag b ≠ 33 → tag b ≠ 43 → elm F1 b j = elm Fo b j))) := by
  refine t_bodyi (y := yX13_latest) (cd := cX13_latest) (mL := 2) (rt := (some .int)) (rm := { frames := 4, cells := 0, slots := 0, locals := 91 }) (av := [.ref p0, .int p1]) (by decide) (Nat.le_of_ble_eq_true rfl) ho ?_
  intro p e s m args below meth c ls A Q hQ X hT hl
  have hx := X.1.1
  have hb := X.1.2.1
  have hl : lv_has ls 2 [(0, .ref p0), (1, .int p1)] := hl
  have rp1 := rg_all p1
  obtain ⟨F, hFo⟩ : ∃ F : Nat → va_E, F = Fo := ⟨_, rfl⟩
  rw [← hFo] at hT pf0
  have hfr : (∀ b j : Nat, (tag b ≠ 46 ∨ j ≠ 0) → (tag b ≠ 46 ∨ j ≠ 1) → (tag b ≠ 46 ∨ j ≠ 2) → (tag b ≠ 46 ∨ j ≠ 36) → fld F b j = fld Fo b j) ∧ (∀ b j : Nat, tag b ≠ 33 → tag b ≠ 43 → elm F b j = elm Fo b j) := by
    rw [hFo]
    exact ⟨by intros; rfl, by intros; rfl⟩
  refine lv_aload_n hx hb dX13_latest_0 rfl (lv_at hl 0 rfl) ?_
  refine lv_iconst (v := 0) hx hb dX13_latest_1 (by decide) ?_
  refine t_put (C := RX13) (T := TX13) (N := 37) (v := .int 0) X hT m0 g0 rfl tyX13 tyX13_ok nmX13 rfl 0 (by decide) qw_140 inlX13 rfl (by first | rfl | decide) (by first | rfl | decide) rfl (⟨_, rfl, (show (-2147483648) ≤ (0 : Int32).toInt from (by decide)), (show (0 : Int32).toInt ≤ 2147483647 from (by decide))⟩) dX13_latest_2 (fun F H locs hT v74127 h1v74127 h2v74127 => ?_)
  have pf0 := (h1v74127 _ _ (Or.inr (by decide))).trans pf0
  have hfr : (∀ b j : Nat, (tag b ≠ 46 ∨ j ≠ 0) → (tag b ≠ 46 ∨ j ≠ 1) → (tag b ≠ 46 ∨ j ≠ 2) → (tag b ≠ 46 ∨ j ≠ 36) → fld F b j = fld Fo b j) ∧ (∀ b j : Nat, tag b ≠ 33 → tag b ≠ 43 → elm F b j = elm Fo b j) := ⟨fun b j n46_0 n46_1 n46_2 n46_36 => (h1v74127 b j (fr_ne g0 n46_0)).trans (hfr.1 b j n46_0 n46_1 n46_2 n46_36), fun b j a33 a43 => (h2v74127 b j).trans (hfr.2 b j a33 a43)⟩
  refine lv_aload_n hx hb dX13_latest_5 rfl (lv_at hl 0 rfl) ?_
  refine lv_iload_n hx hb dX13_latest_6 rfl (lv_at hl 1 rfl) ?_
  refine t_cVi (n := 1) (C := RX13) (T := TX13) (N := 37) (As := [.int p1]) (rest := []) X hT (km233_X13_isWall l G tag L F hT.2.2.2 p0 p1 m0 g0 pf0) m0 g0 rfl rfl qw_1392 qw_1393 qw_1394 qw_5 qw_1395 ⟨rfl, by decide +kernel, by decide +kernel, by decide +kernel⟩ ⟨Nat.le_of_ble_eq_true rfl, Nat.le_of_ble_eq_true rfl⟩ hl rfl rfl (Nat.le_of_ble_eq_true rfl) dX13_latest_7 ⟨Nat.le_of_ble_eq_true rfl, Nat.le_of_ble_eq_true rfl⟩ (fun z74128 F9 H locs hT hz74128 => ?_)
  obtain ⟨fz74128, hz74128⟩ := hz74128
  rw [fz74128] at hT
  refine lv_if_ne (tgt := 19) hx hb dX13_latest_10 (by decide) (fun c74129 => ?_) (fun c74129 => ?_)
  · have w74130 := cv_ne (rfl : z74128.toInt = z74128.toInt) (by decide : (0 : Int32).toInt = 0) c74129
    exfalso
    omega
  · have w74131 := cv_eq (rfl : z74128.toInt = z74128.toInt) (by decide : (0 : Int32).toInt = 0) c74129
    refine lv_aload_n hx hb dX13_latest_13 rfl (lv_at hl 0 rfl) ?_
    refine lv_iconst (v := 1) hx hb dX13_latest_14 (by decide) ?_
    refine t_cVi (n := 1) (C := RX13) (T := TX13) (N := 37) (As := [.int 1]) (rest := []) X hT (km88_X13_refused l G tag L F hT.2.2.2 p0 1 m0 g0) m0 g0 rfl rfl qw_484 qw_485 qw_486 qw_5 qw_487 ⟨rfl, by decide +kernel, by decide +kernel, by decide +kernel⟩ ⟨Nat.le_of_ble_eq_true rfl, Nat.le_of_ble_eq_true rfl⟩ hl rfl rfl (Nat.le_of_ble_eq_true rfl) dX13_latest_15 ⟨Nat.le_of_ble_eq_true rfl, Nat.le_of_ble_eq_true rfl⟩ (fun z74132 F H locs hT hz74132 => ?_)
    obtain ⟨hz74132, yz74132⟩ := hz74132
    have pf0 := (yz74132.1 _ 3 (Or.inr (by decide)) (Or.inr (by decide))).trans pf0
    have v74127 := (yz74132.1 _ 0 (Or.inr (by decide)) (Or.inr (by decide))).trans v74127
    have hfr : (∀ b j : Nat, (tag b ≠ 46 ∨ j ≠ 0) → (tag b ≠ 46 ∨ j ≠ 1) → (tag b ≠ 46 ∨ j ≠ 2) → (tag b ≠ 46 ∨ j ≠ 36) → fld F b j = fld Fo b j) ∧ (∀ b j : Nat, tag b ≠ 33 → tag b ≠ 43 → elm F b j = elm Fo b j) := ⟨fun b j n46_0 n46_1 n46_2 n46_36 => (yz74132.1 b j n46_1 n46_2).trans (hfr.1 b j n46_0 n46_1 n46_2 n46_36), fun b j a33 a43 => (yz74132.2 b j ).trans (hfr.2 b j a33 a43)⟩
    exact t_iret hQ X hT (⟨rg_all _, hfr⟩) (Nat.le_of_ble_eq_true rfl) (Nat.le_of_ble_eq_true rfl) dX13_latest_18
