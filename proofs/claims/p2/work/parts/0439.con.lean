set_option maxHeartbeats 4000000 in
set_option maxRecDepth 100000 in
theorem km280_X13_give (l : Launch) (G : KG) (tag : Nat → Nat) (L : List Nat) (Fo : Nat → va_E) (ho : okT G ttC tag L Fo) (p0 : Nat) (p1 : Int32) (p2 : Int32) (p3 : Int32) (m0 : p0 ∈ L) (g0 : tag p0 = 46) (pf0 : fld Fo p0 3 = .null) : TMi l yX13_give cX13_give 4 (some .boolean) { frames := 2, cells := 0, slots := 0, locals := 42 } G ttC tag L Fo [.ref p0, .int p1, .int p2, .int p3] (fun r F1 => (0 ≤ r.toInt ∧ r.toInt ≤ 1) ∧ ((∀ b j : Nat, (tag b ≠ 46 ∨ j ≠ 0) → (tag b ≠ 46 ∨ j ≠ 1) → (tag b ≠ 46 ∨ j ≠ 2) → (tag b ≠ 46 ∨ j ≠ 20) → fld F1 b j = fld Fo b j) ∧ (∀ b j : Nat, tag b ≠ 37 → tag b ≠ 38 → elm F1 b j = elm Fo b j))) := by
  refine t_bodyi (y := yX13_give) (cd := cX13_give) (mL := 4) (rt := (some .boolean)) (rm := { frames := 2, cells := 0, slots := 0, locals := 42 }) (av := [.ref p0, .int p1, .int p2, .int p3]) (by decide) (Nat.le_of_ble_eq_true rfl) ho ?_
  intro p e s m args below meth c ls A Q hQ X hT hl
  have hx := X.1.1
  have hb := X.1.2.1
  have hl : lv_has ls 4 [(0, .ref p0), (1, .int p1), (2, .int p2), (3, .int p3)] := hl
  have rp1 := rg_all p1
  have rp2 := rg_all p2
  have rp3 := rg_all p3
  obtain ⟨F, hFo⟩ : ∃ F : Nat → va_E, F = Fo := ⟨_, rfl⟩
  rw [← hFo] at hT pf0
  have hfr : (∀ b j : Nat, (tag b ≠ 46 ∨ j ≠ 0) → (tag b ≠ 46 ∨ j ≠ 1) → (tag b ≠ 46 ∨ j ≠ 2) → (tag b ≠ 46 ∨ j ≠ 20) → fld F b j = fld Fo b j) ∧ (∀ b j : Nat, tag b ≠ 37 → tag b ≠ 38 → elm F b j = elm Fo b j) := by
    rw [hFo]
    exact ⟨by intros; rfl, by intros; rfl⟩
  refine lv_aload_n hx hb dX13_give_0 rfl (lv_at hl 0 rfl) ?_
  refine lv_iconst (v := 0) hx hb dX13_give_1 (by decide) ?_
  refine t_put (C := RX13) (T := TX13) (N := 37) (v := .int 0) X hT m0 g0 rfl tyX13 tyX13_ok nmX13 rfl 0 (by decide) qw_140 inlX13 rfl (by first | rfl | decide) (by first | rfl | decide) rfl (⟨_, rfl, (show (-2147483648) ≤ (0 : Int32).toInt from (by decide)), (show (0 : Int32).toInt ≤ 2147483647 from (by decide))⟩) dX13_give_2 (fun F H locs hT v84280 h1v84280 h2v84280 => ?_)
  have pf0 := (h1v84280 _ _ (Or.inr (by decide))).trans pf0
  have hfr : (∀ b j : Nat, (tag b ≠ 46 ∨ j ≠ 0) → (tag b ≠ 46 ∨ j ≠ 1) → (tag b ≠ 46 ∨ j ≠ 2) → (tag b ≠ 46 ∨ j ≠ 20) → fld F b j = fld Fo b j) ∧ (∀ b j : Nat, tag b ≠ 37 → tag b ≠ 38 → elm F b j = elm Fo b j) := ⟨fun b j n46_0 n46_1 n46_2 n46_20 => (h1v84280 b j (fr_ne g0 n46_0)).trans (hfr.1 b j n46_0 n46_1 n46_2 n46_20), fun b j a37 a38 => (h2v84280 b j).trans (hfr.2 b j a37 a38)⟩
  refine lv_aload_n hx hb dX13_give_5 rfl (lv_at hl 0 rfl) ?_
  refine lv_iload_n hx hb dX13_give_6 rfl (lv_at hl 1 rfl) ?_
  refine t_cVi (n := 1) (C := RX13) (T := TX13) (N := 37) (As := [.int p1]) (rest := []) X hT (km116_X13_isHouse l G tag L F hT.2.2.2 p0 p1 m0 g0 pf0) m0 g0 rfl rfl qw_796 qw_797 qw_798 qw_5 qw_799 ⟨rfl, by decide +kernel, by decide +kernel, by decide +kernel⟩ ⟨Nat.le_of_ble_eq_true rfl, Nat.le_of_ble_eq_true rfl⟩ hl rfl rfl (Nat.le_of_ble_eq_true rfl) dX13_give_7 ⟨Nat.le_of_ble_eq_true rfl, Nat.le_of_ble_eq_true rfl⟩ (fun z84281 F9 H locs hT hz84281 => ?_)
  obtain ⟨fz84281, hz84281⟩ := hz84281
  rw [fz84281] at hT
  refine lv_if_eq (tgt := 26) hx hb dX13_give_10 (by decide) (fun c84282 => ?_) (fun c84282 => ?_)
  · have w84283 := cv_eq (rfl : z84281.toInt = z84281.toInt) (by decide : (0 : Int32).toInt = 0) c84282
    refine lv_aload_n hx hb dX13_give_26 rfl (lv_at hl 0 rfl) ?_
    refine lv_iconst (v := 1) hx hb dX13_give_27 (by decide) ?_
    refine t_cVi (n := 1) (C := RX13) (T := TX13) (N := 37) (As := [.int 1]) (rest := []) X hT (km268_X13_denied l G tag L F hT.2.2.2 p0 1 m0 g0) m0 g0 rfl rfl qw_1468 qw_1469 qw_1470 qw_5 qw_1471 ⟨rfl, by decide +kernel, by decide +kernel, by decide +kernel⟩ ⟨Nat.le_of_ble_eq_true rfl, Nat.le_of_ble_eq_true rfl⟩ hl rfl rfl (Nat.le_of_ble_eq_true rfl) dX13_give_28 ⟨Nat.le_of_ble_eq_true rfl, Nat.le_of_ble_eq_true rfl⟩ (fun z84284 F H locs hT hz84284 => ?_)
    obtain ⟨hz84284, yz84284⟩ := hz84284
    have pf0 := (yz84284.1 _ 3 (Or.inr (by decide)) (Or.inr (by decide))).trans pf0
    have v84280 := (yz84284.1 _ 0 (Or.inr (by decide)) (Or.inr (by decide))).trans v84280
    have hfr : (∀ b j : Nat, (tag b ≠ 46 ∨ j ≠ 0) → (tag b ≠ 46 ∨ j ≠ 1) → (tag b ≠ 46 ∨ j ≠ 2) → (tag b ≠ 46 ∨ j ≠ 20) → fld F b j = fld Fo b j) ∧ (∀ b j : Nat, tag b ≠ 37 → tag b ≠ 38 → elm F b j = elm Fo b j) := ⟨fun b j n46_0 n46_1 n46_2 n46_20 => (yz84284.1 b j n46_1 n46_2).trans (hfr.1 b j n46_0 n46_1 n46_2 n46_20), fun b j a37 a38 => (yz84284.2 b j ).trans (hfr.2 b j a37 a38)⟩
    exact t_zret hQ X hT (nar_z (by omega)) (⟨(by omega), hfr⟩) (Nat.le_of_ble_eq_true rfl) (Nat.le_of_ble_eq_true rfl) dX13_give_31
  · have w84285 := cv_ne (rfl : z84281.toInt = z84281.toInt) (by decide : (0 : Int32).toInt = 0) c84282
    exfalso
    omega
theorem kp_X13_give (l : Launch) (G : KG) (tag : Nat → Nat) (L : List Nat) (Fo : Nat → va_E) (ho : okT G ttC tag L Fo) (p0 : Nat) (p1 : Int32) (p2 : Int32) (p3 : Int32) (m0 : p0 ∈ L) (g0 : tag p0 = 46) : TMi l yX13_give cX13_give 4 (some .boolean) { frames := 2, cells := 0, slots := 0, locals := 42 } G ttC tag L Fo [.ref p0, .int p1, .int p2, .int p3] (fun r F1 => (0 ≤ r.toInt ∧ r.toInt ≤ 1) ∧ ((∀ b j : Nat, (tag b ≠ 46 ∨ j ≠ 0) → (tag b ≠ 46 ∨ j ≠ 1) → (tag b ≠ 46 ∨ j ≠ 2) → (tag b ≠ 46 ∨ j ≠ 20) → fld F1 b j = fld Fo b j) ∧ (∀ b j : Nat, tag b ≠ 37 → tag b ≠ 38 → elm F1 b j = elm Fo b j))) := by
  rcases t_fldn ho m0 g0 rfl 3 rfl with h9 | ⟨b9, h9, m9, t9⟩
  · exact km280_X13_give l G tag L Fo ho p0 p1 p2 p3  m0 g0 h9 
  · exact km279_X13_give l G tag L Fo ho p0 p1 p2 p3 b9  m0 g0 m9 (tg_of t9) h9 
set_option maxHeartbeats 4000000 in
set_option maxRecDepth 100000 in
theorem km282_X13_seed (l : Launch) (G : KG) (tag : Nat → Nat) (L : List Nat) (Fo : Nat → va_E) (ho : okT G ttC tag L Fo) (p0 : Nat) (p1 : Int32) (x0 : Nat) (m0 : p0 ∈ L) (g0 : tag p0 = 46) (mx0 : x0 ∈ L) (gx0 : tag x0 = 45) (pf0 : fld Fo p0 3 = .ref x0) : TMi l yX13_seed cX13_seed 2 (some .boolean) { frames := 2, cells := 0, slots := 0, locals := 42 } G ttC tag L Fo [.ref p0, .int p1] (fun r F1 => (0 ≤ r.toInt ∧ r.toInt ≤ 1) ∧ ((∀ b j : Nat, (tag b ≠ 46 ∨ j ≠ 0) → (tag b ≠ 46 ∨ j ≠ 1) → (tag b ≠ 46 ∨ j ≠ 2) → fld F1 b j = fld Fo b j) ∧ (∀ b j : Nat, tag b ≠ 37 → elm F1 b j = elm Fo b j))) := by
  refine t_bodyi (y := yX13_seed) (cd := cX13_seed) (mL := 2) (rt := (some .boolean)) (rm := { frames := 2, cells := 0, slots := 0, locals := 42 }) (av := [.ref p0, .int p1]) (by decide) (Nat.le_of_ble_eq_true rfl) ho ?_
  intro p e s m args below meth c ls A Q hQ X hT hl
  have hx := X.1.1
  have hb := X.1.2.1
  have hl : lv_has ls 2 [(0, .ref p0), (1, .int p1)] := hl
  have rp1 := rg_all p1
  obtain ⟨F, hFo⟩ : ∃ F : Nat → va_E, F = Fo := ⟨_, rfl⟩
  rw [← hFo] at hT pf0
  have hfr : (∀ b j : Nat, (tag b ≠ 46 ∨ j ≠ 0) → (tag b ≠ 46 ∨ j ≠ 1) → (tag b ≠ 46 ∨ j ≠ 2) → fld F b j = fld Fo b j) ∧ (∀ b j : Nat, tag b ≠ 37 → elm F b j = elm Fo b j) := by
    rw [hFo]
    exact ⟨by intros; rfl, by intros; rfl⟩
  refine lv_aload_n hx hb dX13_seed_0 rfl (lv_at hl 0 rfl) ?_
  refine lv_iconst (v := 0) hx hb dX13_seed_1 (by decide) ?_
  refine t_put (C := RX13) (T := TX13) (N := 37) (v := .int 0) X hT m0 g0 rfl tyX13 tyX13_ok nmX13 rfl 0 (by decide) qw_140 inlX13 rfl (by first | rfl | decide) (by first | rfl | decide) rfl (⟨_, rfl, (show (-2147483648) ≤ (0 : Int32).toInt from (by decide)), (show (0 : Int32).toInt ≤ 2147483647 from (by decide))⟩) dX13_seed_2 (fun F H locs hT v84440 h1v84440 h2v84440 => ?_)
  have pf0 := (h1v84440 _ _ (Or.inr (by decide))).trans pf0
  have hfr : (∀ b j : Nat, (tag b ≠ 46 ∨ j ≠ 0) → (tag b ≠ 46 ∨ j ≠ 1) → (tag b ≠ 46 ∨ j ≠ 2) → fld F b j = fld Fo b j) ∧ (∀ b j : Nat, tag b ≠ 37 → elm F b j = elm Fo b j) := ⟨fun b j n46_0 n46_1 n46_2 => (h1v84440 b j (fr_ne g0 n46_0)).trans (hfr.1 b j n46_0 n46_1 n46_2), fun b j a37 => (h2v84440 b j).trans (hfr.2 b j a37)⟩
  refine lv_aload_n hx hb dX13_seed_5 rfl (lv_at hl 0 rfl) ?_
  refine t_get (C := RX13) (T := TX13) (N := 37) X hT m0 g0 rfl rfl 3 (by decide) qw_481 inlX13 rfl dX13_seed_6 (fun v84441 hv84441 ov84441 => ?_)
  obtain rfl : v84441 = .ref x0 := hv84441.symm.trans pf0
  refine lv_ifnonnull (tgt := 18) hx hb dX13_seed_9 (by decide) ?_
  refine lv_iload_n hx hb dX13_seed_18 rfl (lv_at hl 1 rfl) ?_
  refine lv_iconst (v := 0) hx hb dX13_seed_19 (by decide) ?_
  refine m_ldcw X qw_1287 dX13_seed_20 ?_
  refine t_cSi (n := 3) (As := [.int p1, .int 0, .int 65536]) (rest := []) X hT (km19_X13_within l G tag L F hT.2.2.2 p1 0 65536 ) qw_568 qw_569 qw_5 qw_570 ⟨by decide +kernel, by decide +kernel, by decide +kernel⟩ ⟨Nat.le_of_ble_eq_true rfl, Nat.le_of_ble_eq_true rfl⟩ hl rfl rfl (Nat.le_of_ble_eq_true rfl) dX13_seed_23 ⟨Nat.le_of_ble_eq_true rfl, Nat.le_of_ble_eq_true rfl⟩ (fun z84442 F9 H locs hT hz84442 => ?_)
  obtain ⟨fz84442, hz84442, xz84442_0⟩ := hz84442
  rw [fz84442] at hT
  have k84443 : (0 : Int32).toInt = 0 := by decide
  have k84444 : (65536 : Int32).toInt = 65536 := by decide
  refine lv_if_ne (tgt := 35) hx hb dX13_seed_26 (by decide) (fun c84445 => ?_) (fun c84445 => ?_)
  · have w84446 := cv_ne (rfl : z84442.toInt = z84442.toInt) (by decide : (0 : Int32).toInt = 0) c84445
    have w84447 := xz84442_0 (by omega)
    refine lv_aload_n hx hb dX13_seed_35 rfl (lv_at hl 0 rfl) ?_
    refine t_get (C := RX13) (T := TX13) (N := 37) X hT m0 g0 rfl rfl 16 (by decide) qw_112 inlX13 rfl dX13_seed_36 (fun v84448 hv84448 ov84448 => ?_)
    obtain ⟨b84449, rfl, mb84449, gb84449⟩ := okV_r ov84448
    have gb84449 : tag b84449 = 37 := tg_of gb84449
    refine lv_sipush (v := 211) hx hb dX13_seed_39 (by decide) ?_
    refine lv_iload_n hx hb dX13_seed_42 rfl (lv_at hl 1 rfl) ?_
    refine t_ist X hT mb84449 gb84449 rfl (by decide) (row_fv (by decide) (Or.inr (Or.inl (by decide)))) dX13_seed_43 (fun F H locs hT v84450 h1v84450 h2v84450 => ?_)
    have pf0 := (h2v84450 _ _).trans pf0
    have v84440 := (h2v84450 _ _).trans v84440
    have hv84448 := (h2v84450 _ _).trans hv84448
    have hfr : (∀ b j : Nat, (tag b ≠ 46 ∨ j ≠ 0) → (tag b ≠ 46 ∨ j ≠ 1) → (tag b ≠ 46 ∨ j ≠ 2) → fld F b j = fld Fo b j) ∧ (∀ b j : Nat, tag b ≠ 37 → elm F b j = elm Fo b j) := ⟨fun b j n46_0 n46_1 n46_2 => (h2v84450 b j).trans (hfr.1 b j n46_0 n46_1 n46_2), fun b j a37 => (h1v84450 b j (Or.inl (at_ne gb84449 a37))).trans (hfr.2 b j a37)⟩
    refine lv_aload_n hx hb dX13_seed_44 rfl (lv_at hl 0 rfl) ?_
    refine t_cVi (n := 0) (C := RX13) (T := TX13) (N := 37) (As := []) (rest := []) X hT (km269_X13_granted l G tag L F hT.2.2.2 p0 m0 g0) m0 g0 rfl rfl qw_1472 qw_1473 qw_1474 qw_5 qw_1475 ⟨rfl, by decide +kernel, by decide +kernel, by decide +kernel⟩ ⟨Nat.le_of_ble_eq_true rfl, Nat.le_of_ble_eq_true rfl⟩ hl rfl rfl (Nat.le_of_ble_eq_true rfl) dX13_seed_45 ⟨Nat.le_of_ble_eq_true rfl, Nat.le_of_ble_eq_true rfl⟩ (fun z84451 F H locs hT hz84451 => ?_)
    obtain ⟨hz84451, yz84451⟩ := hz84451
    have pf0 := (yz84451.1 _ 3 (Or.inr (by decide)) (Or.inr (by decide))).trans pf0
    have v84440 := (yz84451.1 _ 0 (Or.inr (by decide)) (Or.inr (by decide))).trans v84440
    have hv84448 := (yz84451.1 _ 16 (Or.inr (by decide)) (Or.inr (by decide))).trans hv84448
    have v84450 := (yz84451.2 _ _ ).trans v84450
    have hfr : (∀ b j : Nat, (tag b ≠ 46 ∨ j ≠ 0) → (tag b ≠ 46 ∨ j ≠ 1) → (tag b ≠ 46 ∨ j ≠ 2) → fld F b j = fld Fo b j) ∧ (∀ b j : Nat, tag b ≠ 37 → elm F b j = elm Fo b j) := ⟨fun b j n46_0 n46_1 n46_2 => (yz84451.1 b j n46_1 n46_2).trans (hfr.1 b j n46_0 n46_1 n46_2), fun b j a37 => (yz84451.2 b j ).trans (hfr.2 b j a37)⟩
    exact t_zret hQ X hT (nar_z (by omega)) (⟨(by omega), hfr⟩) (Nat.le_of_ble_eq_true rfl) (Nat.le_of_ble_eq_true rfl) dX13_seed_48
  · have w84452 := cv_eq (rfl : z84442.toInt = z84442.toInt) (by decide : (0 : Int32).toInt = 0) c84445
    refine lv_aload_n hx hb dX13_seed_29 rfl (lv_at hl 0 rfl) ?_
    refine lv_iconst (v := 2) hx hb dX13_seed_30 (by decide) ?_
    refine t_cVi (n := 1) (C := RX13) (T := TX13) (N := 37) (As := [.int 2]) (rest := []) X hT (km268_X13_denied l G tag L F hT.2.2.2 p0 2 m0 g0) m0 g0 rfl rfl qw_1468 qw_1469 qw_1470 qw_5 qw_1471 ⟨rfl, by decide +kernel, by decide +kernel, by decide +kernel⟩ ⟨Nat.le_of_ble_eq_true rfl, Nat.le_of_ble_eq_true rfl⟩ hl rfl rfl (Nat.le_of_ble_eq_true rfl) dX13_seed_31 ⟨Nat.le_of_ble_eq_true rfl, Nat.le_of_ble_eq_true rfl⟩ (fun z84453 F H locs hT hz84453 => ?_)
    obtain ⟨hz84453, yz84453⟩ := hz84453
    have pf0 := (yz84453.1 _ 3 (Or.inr (by decide)) (Or.inr (by decide))).trans pf0
    have v84440 := (yz84453.1 _ 0 (Or.inr (by decide)) (Or.inr (by decide))).trans v84440
    have hfr : (∀ b j : Nat, (tag b ≠ 46 ∨ j ≠ 0) → (tag b ≠ 46 ∨ j ≠ 1) → (tag b ≠ 46 ∨ j ≠ 2) → fld F b j = fld Fo b j) ∧ (∀ b j : Nat, tag b ≠ 37 → elm F b j = elm Fo b j) := ⟨fun b j n46_0 n46_1 n46_2 => (yz84453.1 b j n46_1 n46_2).trans (hfr.1 b j n46_0 n46_1 n46_2), fun b j a37 => (yz84453.2 b j ).trans (hfr.2 b j a37)⟩
    exact t_zret hQ X hT (nar_z (by omega)) (⟨(by omega), hfr⟩) (Nat.le_of_ble_eq_true rfl) (Nat.le_of_ble_eq_true rfl) dX13_seed_34
set_option maxHeartbeats 4000000 in
set_option maxRecDepth 100000 in
theorem km283_X13_seed (l : Launch) (G : KG) (tag : Nat → Nat) (L : List Nat) (Fo : Nat → va_E) (ho : okT G ttC tag L Fo) (p0 : Nat) (p1 : Int32) (m0 : p0 ∈ L) (g0 : tag p0 = 46) (pf0 : fld Fo p0 3 = .null) : TMi l yX13_seed cX13_seed 2 (some .boolean) { frames := 2, cells := 0, slots := 0, locals := 42 } G ttC tag L Fo [.ref p0, .int p1] (fun r F1 => (0 ≤ r.toInt ∧ r.toInt ≤ 1) ∧ ((∀ b j : Nat, (tag b ≠ 46 ∨ j ≠ 0) → (tag b ≠ 46 ∨ j ≠ 1) → (tag b ≠ 46 ∨ j ≠ 2) → fld F1 b j = fld Fo b j) ∧ (∀ b j : Nat, tag b ≠ 37 → elm F1 b j = elm Fo b j))) := by
  refine t_bodyi (y := yX13_seed) (cd := cX13_seed) (mL := 2) (rt := (some .boolean)) (rm := { frames := 2, cells := 0, slots := 0, locals := 42 }) (av := [.ref p0, .int p1]) (by decide) (Nat.le_of_ble_eq_true rfl) ho ?_
  intro p e s m args below meth c ls A Q hQ X hT hl
  have hx := X.1.1
  have hb := X.1.2.1
  have hl : lv_has ls 2 [(0, .ref p0), (1, .int p1)] := hl
  have rp1 := rg_all p1
  obtain ⟨F, hFo⟩ : ∃ F : Nat → va_E, F = Fo := ⟨_, rfl⟩
  rw [← hFo] at hT pf0
  have hfr : (∀ b j : Nat, (tag b ≠ 46 ∨ j ≠ 0) → (tag b ≠ 46 ∨ j ≠ 1) → (tag b ≠ 46 ∨ j ≠ 2) → fld F b j = fld Fo b j) ∧ (∀ b j : Nat, tag b ≠ 37 → elm F b j = elm Fo b j) := by
    rw [hFo]
    exact ⟨by intros; rfl, by intros; rfl⟩
  refine lv_aload_n hx hb dX13_seed_0 rfl (lv_at hl 0 rfl) ?_
  refine lv_iconst (v := 0) hx hb dX13_seed_1 (by decide) ?_
  refine t_put (C := RX13) (T := TX13) (N := 37) (v := .int 0) X hT m0 g0 rfl tyX13 tyX13_ok nmX13 rfl 0 (by decide) qw_140 inlX13 rfl (by first | rfl | decide) (by first | rfl | decide) rfl (⟨_, rfl, (show (-2147483648) ≤ (0 : Int32).toInt from (by decide)), (show (0 : Int32).toInt ≤ 2147483647 from (by decide))⟩) dX13_seed_2 (fun F H locs hT v84487 h1v84487 h2v84487 => ?_)
  have pf0 := (h1v84487 _ _ (Or.inr (by decide))).trans pf0
  have hfr : (∀ b j : Nat, (tag b ≠ 46 ∨ j ≠ 0) → (tag b ≠ 46 ∨ j ≠ 1) → (tag b ≠ 46 ∨ j ≠ 2) → fld F b j = fld Fo b j) ∧ (∀ b j : Nat, tag b ≠ 37 → elm F b j = elm Fo b j) := ⟨fun b j n46_0 n46_1 n46_2 => (h1v84487 b j (fr_ne g0 n46_0)).trans (hfr.1 b j n46_0 n46_1 n46_2), fun b j a37 => (h2v84487 b j).trans (hfr.2 b j a37)⟩
  refine lv_aload_n hx hb dX13_seed_5 rfl (lv_at hl 0 rfl) ?_
  refine t_get (C := RX13) (T := TX13) (N := 37) X hT m0 g0 rfl rfl 3 (by decide) qw_481 inlX13 rfl dX13_seed_6 (fun v84488 hv84488 ov84488 => ?_)
  obtain rfl : v84488 = .null := hv84488.symm.trans pf0
  refine lv_ifnonnullN hx hb dX13_seed_9 ?_
  refine lv_aload_n hx hb dX13_seed_12 rfl (lv_at hl 0 rfl) ?_
  refine lv_iconst (v := 1) hx hb dX13_seed_13 (by decide) ?_
  refine t_cVi (n := 1) (C := RX13) (T := TX13) (N := 37) (As := [.int 1]) (rest := []) X hT (km268_X13_denied l G tag L F hT.2.2.2 p0 1 m0 g0) m0 g0 rfl rfl qw_1468 qw_1469 qw_1470 qw_5 qw_1471 ⟨rfl, by decide +kernel, by decide +kernel, by decide +kernel⟩ ⟨Nat.le_of_ble_eq_true rfl, Nat.le_of_ble_eq_true rfl⟩ hl rfl rfl (Nat.le_of_ble_eq_true rfl) dX13_seed_14 ⟨Nat.le_of_ble_eq_true rfl, Nat.le_of_ble_eq_true rfl⟩ (fun z84489 F H locs hT hz84489 => ?_)
  obtain ⟨hz84489, yz84489⟩ := hz84489
  have pf0 := (yz84489.1 _ 3 (Or.inr (by decide)) (Or.inr (by decide))).trans pf0
  have v84487 := (yz84489.1 _ 0 (Or.inr (by decide)) (Or.inr (by decide))).trans v84487
  have hfr : (∀ b j : Nat, (tag b ≠ 46 ∨ j ≠ 0) → (tag b ≠ 46 ∨ j ≠ 1) → (tag b ≠ 46 ∨ j ≠ 2) → fld F b j = fld Fo b j) ∧ (∀ b j : Nat, tag b ≠ 37 → elm F b j = elm Fo b j) := ⟨fun b j n46_0 n46_1 n46_2 => (yz84489.1 b j n46_1 n46_2).trans (hfr.1 b j n46_0 n46_1 n46_2), fun b j a37 => (yz84489.2 b j ).trans (hfr.2 b j a37)⟩
  exact t_zret hQ X hT (nar_z (by omega)) (⟨(by omega), hfr⟩) (Nat.le_of_ble_eq_true rfl) (Nat.le_of_ble_eq_true rfl) dX13_seed_17
theorem kp_X13_seed (l : Launch) (G : KG) (tag : Nat → Nat) (L : List Nat) (Fo : Nat → va_E) (ho : okT G ttC tag L Fo) (p0 : Nat) (p1 : Int32) (m0 : p0 ∈ L) (g0 : tag p0 = 46) : TMi l yX13_seed cX13_seed 2 (some .boolean) { frames := 2, cells := 0, slots := 0, locals := 42 } G ttC tag L Fo [.ref p0, .int p1] (fun r F1 => (0 ≤ r.toInt ∧ r.toInt ≤ 1) ∧ ((∀ b j : Nat, (tag b ≠ 46 ∨ j ≠ 0) → (tag b ≠ 46 ∨ j ≠ 1) → (tag b ≠ 46 ∨ j ≠ 2) → fld F1 b j = fld Fo b j) ∧ (∀ b j : Nat, tag b ≠ 37 → elm F1 b j = elm Fo b j))) := by
  rcases t_fldn ho m0 g0 rfl 3 rfl with h9 | ⟨b9, h9, m9, t9⟩
  · exact km283_X13_seed l G tag L Fo ho p0 p1  m0 g0 h9 
  · exact km282_X13_seed l G tag L Fo ho p0 p1 b9  m0 g0 m9 (tg_of t9) h9 
set_option maxHeartbeats 4000000 in
set_option maxRecDepth 100000 in
theorem km285_X13_undo (l : Launch) (G : KG) (tag : Nat → Nat) (L : List Nat) (Fo : Nat → va_E) (ho : okT G ttC tag L Fo) (p0 : Nat) (x0 : Nat) (m0 : p0 ∈ L) (g0 : tag p0 = 46) (mx0 : x0 ∈ L) (gx0 : tag x0 = 45) (pf0 : fld Fo p0 3 = .ref x0) : TMi l yX13_undo cX13_undo 2 (some .boolean) { frames := 2, cells := 0, slots := 0, locals := 42 } G ttC tag L Fo [.ref p0] (fun r F1 => (0 ≤ r.toInt ∧ r.toInt ≤ 1) ∧ ((∀ b j : Nat, (tag b ≠ 46 ∨ j ≠ 0) → (tag b ≠ 46 ∨ j ≠ 1) → (tag b ≠ 46 ∨ j ≠ 2) → (tag b ≠ 46 ∨ j ≠ 20) → fld F1 b j = fld Fo b j) ∧ (∀ b j : Nat, tag b ≠ 37 → elm F1 b j = elm Fo b j))) := by
  refine t_bodyi (y := yX13_undo) (cd := cX13_undo) (mL := 2) (rt := (some .boolean)) (rm := { frames := 2, cells := 0, slots := 0, locals := 42 }) (av := [.ref p0]) (by decide) (Nat.le_of_ble_eq_true rfl) ho ?_
  intro p e s m args below meth c ls A Q hQ X hT hl
  have hx := X.1.1
  have hb := X.1.2.1
  have hl : lv_has ls 2 [(0, .ref p0)] := hl
  obtain ⟨F, hFo⟩ : ∃ F : Nat → va_E, F = Fo := ⟨_, rfl⟩
  rw [← hFo] at hT pf0
  have hfr : (∀ b j : Nat, (tag b ≠ 46 ∨ j ≠ 0) → (tag b ≠ 46 ∨ j ≠ 1) → (tag b ≠ 46 ∨ j ≠ 2) → (tag b ≠ 46 ∨ j ≠ 20) → fld F b j = fld Fo b j) ∧ (∀ b j : Nat, tag b ≠ 37 → elm F b j = elm Fo b j) := by
    rw [hFo]
    exact ⟨by intros; rfl, by intros; rfl⟩
  have K38 : ∀ (n : Nat) (z85155 : Int32) (z85156 : Int32) (z85157 : Int32) (F : Nat → va_E) (H : Heap) (locs : List Loc) (ls : Array Slot), (212 - z85155.toInt < (n : Int)) → (0 ≤ z85155.toInt ∧ z85155.toInt ≤ 212) → (0 ≤ z85156.toInt ∧ z85156.toInt ≤ 0) → (0 ≤ z85157.toInt ∧ z85157.toInt ≤ 9) → TH G ttC A s tag L F H locs → ((∀ b j : Nat, (tag b ≠ 46 ∨ j ≠ 0) → (tag b ≠ 46 ∨ j ≠ 1) → (tag b ≠ 46 ∨ j ≠ 2) → (tag b ≠ 46 ∨ j ≠ 20) → fld F b j = fld Fo b j) ∧ (∀ b j : Nat, tag b ≠ 37 → elm F b j = elm Fo b j)) → (fld F p0 3 = .ref x0) → (fld F p0 0 = .int z85156) → (fld F p0 20 = .int z85157) → lv_has ls 2 [(0, .ref p0), (1, .int z85155)] → W p l e { frames := 2, cells := 0, slots := 0, locals := 42 } s m args below meth c H locs 0 0 Q (F0 m 38 ls []) := by
    intro n
    induction n with
    | zero =>
      intro z85155 z85156 z85157 F H locs ls hn rz85155 rz85156 rz85157 hT hfr pf0 qz85156 qz85157 hl
      exfalso
      omega
    | succ n ih38 =>
      intro z85155 z85156 z85157 F H locs ls hn rz85155 rz85156 rz85157 hT hfr pf0 qz85156 qz85157 hl
      refine lv_iload_n hx hb dX13_undo_38 rfl (lv_at hl 1 rfl) ?_
      refine lv_sipush (v := 212) hx hb dX13_undo_39 (by decide) ?_
      refine lv_icmp_ge (tgt := 72) hx hb dX13_undo_42 (by decide) (fun c85158 => ?_) (fun c85158 => ?_)
      · have w85159 := cv_le (by decide : (212 : Int32).toInt = 212) (rfl : z85155.toInt = z85155.toInt) c85158
        refine lv_aload_n hx hb dX13_undo_72 rfl (lv_at hl 0 rfl) ?_
        refine t_cVi (n := 0) (C := RX13) (T := TX13) (N := 37) (As := []) (rest := []) X hT (km269_X13_granted l G tag L F hT.2.2.2 p0 m0 g0) m0 g0 rfl rfl qw_1472 qw_1473 qw_1474 qw_5 qw_1475 ⟨rfl, by decide +kernel, by decide +kernel, by decide +kernel⟩ ⟨Nat.le_of_ble_eq_true rfl, Nat.le_of_ble_eq_true rfl⟩ hl rfl rfl (Nat.le_of_ble_eq_true rfl) dX13_undo_73 ⟨Nat.le_of_ble_eq_true rfl, Nat.le_of_ble_eq_true rfl⟩ (fun z85160 F H locs hT hz85160 => ?_)
        obtain ⟨hz85160, yz85160⟩ := hz85160
        have qz85156 := (yz85160.1 _ 0 (Or.inr (by decide)) (Or.inr (by decide))).trans qz85156
        have qz85157 := (yz85160.1 _ 20 (Or.inr (by decide)) (Or.inr (by decide))).trans qz85157
        have pf0 := (yz85160.1 _ 3 (Or.inr (by decide)) (Or.inr (by decide))).trans pf0
        have hfr : (∀ b j : Nat, (tag b ≠ 46 ∨ j ≠ 0) → (tag b ≠ 46 ∨ j ≠ 1) → (tag b ≠ 46 ∨ j ≠ 2) → (tag b ≠ 46 ∨ j ≠ 20) → fld F b j = fld Fo b j) ∧ (∀ b j : Nat, tag b ≠ 37 → elm F b j = elm Fo b j) := ⟨fun b j n46_0 n46_1 n46_2 n46_20 => (yz85160.1 b j n46_1 n46_2).trans (hfr.1 b j n46_0 n46_1 n46_2 n46_20), fun b j a37 => (yz85160.2 b j ).trans (hfr.2 b j a37)⟩
        exact t_zret hQ X hT (nar_z (by omega)) (⟨(by omega), hfr⟩) (Nat.le_of_ble_eq_true rfl) (Nat.le_of_ble_eq_true rfl) dX13_undo_76
      · have w85161 := cv_nle (by decide : (212 : Int32).toInt = 212) (rfl : z85155.toInt = z85155.toInt) c85158
        refine lv_aload_n hx hb dX13_undo_45 rfl (lv_at hl 0 rfl) ?_
        refine t_get (C := RX13) (T := TX13) (N := 37) X hT m0 g0 rfl rfl 16 (by decide) qw_112 inlX13 rfl dX13_undo_46 (fun v85162 hv85162 ov85162 => ?_)
        obtain ⟨b85163, rfl, mb85163, gb85163⟩ := okV_r ov85162
        have gb85163 : tag b85163 = 37 := tg_of gb85163
        refine lv_iload_n hx hb dX13_undo_49 rfl (lv_at hl 1 rfl) ?_
        refine lv_aload_n hx hb dX13_undo_50 rfl (lv_at hl 0 rfl) ?_
        refine t_get (C := RX13) (T := TX13) (N := 37) X hT m0 g0 rfl rfl 18 (by decide) qw_114 inlX13 rfl dX13_undo_51 (fun v85164 hv85164 ov85164 => ?_)
        obtain ⟨b85165, rfl, mb85165, gb85165⟩ := okV_r ov85164
        have gb85165 : tag b85165 = 38 := tg_of gb85165
        refine lv_sipush (v := 212) hx hb dX13_undo_54 (by decide) ?_
        refine lv_aload_n hx hb dX13_undo_57 rfl (lv_at hl 0 rfl) ?_
        refine t_get (C := RX13) (T := TX13) (N := 37) X hT m0 g0 rfl rfl 20 (by decide) qw_482 inlX13 rfl dX13_undo_58 (fun v85166 hv85166 ov85166 => ?_)
        obtain rfl : v85166 = .int z85157 := hv85166.symm.trans qz85157
        refine lv_imul hx hb dX13_undo_61 ?_
        refine lv_topi (fun z85167 ez85167 => ?_)
        have hz85167 : z85167.toInt = 212 * z85157.toInt := ar_mul ez85167 (by decide : (212 : Int32).toInt = 212) (rfl : z85157.toInt = z85157.toInt) (by omega) (by omega)
        have rz85167 : 0 ≤ z85167.toInt ∧ z85167.toInt ≤ 1908 := by omega
        refine lv_iload_n hx hb dX13_undo_62 rfl (lv_at hl 1 rfl) ?_
        refine lv_iadd hx hb dX13_undo_63 ?_
        refine lv_topi (fun z85168 ez85168 => ?_)
        have hz85168 : z85168.toInt = z85167.toInt + z85155.toInt := ar_add ez85168 (rfl : z85167.toInt = z85167.toInt) (rfl : z85155.toInt = z85155.toInt) (by omega) (by omega)
        have rz85168 : 0 ≤ z85168.toInt ∧ z85168.toInt ≤ 2119 := by omega
        refine t_ild X hT mb85165 gb85165 rfl (by omega) dX13_undo_64 (fun z85169 vz85169 rz85169 => ?_)
        have oz85169 := rz85169
        have rz85169 := rg_all z85169
        refine t_ist X hT mb85163 gb85163 rfl (by omega) (row_c2 (a := z85157.toInt) (by omega) (by omega) (by omega) oz85169) dX13_undo_65 (fun F H locs hT v85170 h1v85170 h2v85170 => ?_)
        have qz85156 := (h2v85170 _ _).trans qz85156
        have qz85157 := (h2v85170 _ _).trans qz85157
        have pf0 := (h2v85170 _ _).trans pf0
        have hv85162 := (h2v85170 _ _).trans hv85162
        have hv85164 := (h2v85170 _ _).trans hv85164
        have vz85169 := (h1v85170 _ _ (Or.inl (tne gb85165 gb85163 (by decide)))).trans vz85169
        have hfr : (∀ b j : Nat, (tag b ≠ 46 ∨ j ≠ 0) → (tag b ≠ 46 ∨ j ≠ 1) → (tag b ≠ 46 ∨ j ≠ 2) → (tag b ≠ 46 ∨ j ≠ 20) → fld F b j = fld Fo b j) ∧ (∀ b j : Nat, tag b ≠ 37 → elm F b j = elm Fo b j) := ⟨fun b j n46_0 n46_1 n46_2 n46_20 => (h2v85170 b j).trans (hfr.1 b j n46_0 n46_1 n46_2 n46_20), fun b j a37 => (h1v85170 b j (Or.inl (at_ne gb85163 a37))).trans (hfr.2 b j a37)⟩
        obtain ⟨z85171, ez85171⟩ : ∃ y : Int32, y = z85155 + 1 := ⟨_, rfl⟩
        have hz85171 : z85171.toInt = z85155.toInt + 1 := ar_add ez85171 rfl (by decide : (1 : Int32).toInt = 1) (by omega) (by omega)
        refine lv_iinc (v := z85171) (lv' := [(1, .int z85171), (0, .ref p0)]) hx hb dX13_undo_66 hl (k := 1) rfl (by rw [ez85171]; rfl) (by decide) rfl (fun ls hl => ?_)
        refine lv_goto (tgt := 38) hx hb dX13_undo_69 (by decide) ?_
        exact ih38 z85171 z85156 z85157 _ _ _ _ (by omega) (by omega) (by omega) (by omega) hT hfr pf0 qz85156 qz85157 (lv_sub hl [1, 0] rfl)
  refine lv_aload_n hx hb dX13_undo_0 rfl (lv_at hl 0 rfl) ?_
  refine lv_iconst (v := 0) hx hb dX13_undo_1 (by decide) ?_
  refine t_put (C := RX13) (T := TX13) (N := 37) (v := .int 0) X hT m0 g0 rfl tyX13 tyX13_ok nmX13 rfl 0 (by decide) qw_140 inlX13 rfl (by first | rfl | decide) (by first | rfl | decide) rfl (⟨_, rfl, (show (-2147483648) ≤ (0 : Int32).toInt from (by decide)), (show (0 : Int32).toInt ≤ 2147483647 from (by decide))⟩) dX13_undo_2 (fun F H locs hT v85172 h1v85172 h2v85172 => ?_)
  have pf0 := (h1v85172 _ _ (Or.inr (by decide))).trans pf0
  have hfr : (∀ b j : Nat, (tag b ≠ 46 ∨ j ≠ 0) → (tag b ≠ 46 ∨ j ≠ 1) → (tag b ≠ 46 ∨ j ≠ 2) → (tag b ≠ 46 ∨ j ≠ 20) → fld F b j = fld Fo b j) ∧ (∀ b j : Nat, tag b ≠ 37 → elm F b j = elm Fo b j) := ⟨fun b j n46_0 n46_1 n46_2 n46_20 => (h1v85172 b j (fr_ne g0 n46_0)).trans (hfr.1 b j n46_0 n46_1 n46_2 n46_20), fun b j a37 => (h2v85172 b j).trans (hfr.2 b j a37)⟩
  refine lv_aload_n hx hb dX13_undo_5 rfl (lv_at hl 0 rfl) ?_
  refine t_get (C := RX13) (T := TX13) (N := 37) X hT m0 g0 rfl rfl 3 (by decide) qw_481 inlX13 rfl dX13_undo_6 (fun v85173 hv85173 ov85173 => ?_)
  obtain rfl : v85173 = .ref x0 := hv85173.symm.trans pf0
  refine lv_ifnull hx hb dX13_undo_9 ?_
  refine lv_aload_n hx hb dX13_undo_12 rfl (lv_at hl 0 rfl) ?_
  refine t_get (C := RX13) (T := TX13) (N := 37) X hT m0 g0 rfl rfl 20 (by decide) qw_482 inlX13 rfl dX13_undo_13 (fun v85174 hv85174 ov85174 => ?_)
  obtain ⟨z85175, rfl, rz85175⟩ := okV_i ov85174
  refine lv_if_ne (tgt := 26) hx hb dX13_undo_16 (by decide) (fun c85176 => ?_) (fun c85176 => ?_)
  · have w85177 := cv_ne (rfl : z85175.toInt = z85175.toInt) (by decide : (0 : Int32).toInt = 0) c85176
    refine lv_aload_n hx hb dX13_undo_26 rfl (lv_at hl 0 rfl) ?_
    refine lv_dup hx hb dX13_undo_27 rfl ?_
    refine t_get (C := RX13) (T := TX13) (N := 37) X hT m0 g0 rfl rfl 20 (by decide) qw_482 inlX13 rfl dX13_undo_28 (fun v85178 hv85178 ov85178 => ?_)
    obtain rfl : v85178 = .int z85175 := hv85178.symm.trans hv85174
    refine lv_iconst (v := 1) hx hb dX13_undo_31 (by decide) ?_
    refine lv_isub hx hb dX13_undo_32 ?_
    refine lv_topi (fun z85179 ez85179 => ?_)
    have hz85179 : z85179.toInt = z85175.toInt - 1 := ar_sub ez85179 (rfl : z85175.toInt = z85175.toInt) (by decide : (1 : Int32).toInt = 1) (by omega) (by omega)
    have rz85179 : 0 ≤ z85179.toInt ∧ z85179.toInt ≤ 9 := by omega
    refine t_put (C := RX13) (T := TX13) (N := 37) (v := .int z85179) X hT m0 g0 rfl tyX13 tyX13_ok nmX13 rfl 20 (by decide) qw_482 inlX13 rfl (by first | rfl | decide) (by first | rfl | decide) rfl (⟨_, rfl, (show 0 ≤ (z85179 : Int32).toInt from (by omega)), (show (z85179 : Int32).toInt ≤ 10 from (by omega))⟩) dX13_undo_33 (fun F H locs hT v85180 h1v85180 h2v85180 => ?_)
    have pf0 := (h1v85180 _ _ (Or.inr (by decide))).trans pf0
    have v85172 := (h1v85180 _ _ (Or.inr (by decide))).trans v85172
    have hfr : (∀ b j : Nat, (tag b ≠ 46 ∨ j ≠ 0) → (tag b ≠ 46 ∨ j ≠ 1) → (tag b ≠ 46 ∨ j ≠ 2) → (tag b ≠ 46 ∨ j ≠ 20) → fld F b j = fld Fo b j) ∧ (∀ b j : Nat, tag b ≠ 37 → elm F b j = elm Fo b j) := ⟨fun b j n46_0 n46_1 n46_2 n46_20 => (h1v85180 b j (fr_ne g0 n46_20)).trans (hfr.1 b j n46_0 n46_1 n46_2 n46_20), fun b j a37 => (h2v85180 b j).trans (hfr.2 b j a37)⟩
    refine lv_iconst (v := 0) hx hb dX13_undo_36 (by decide) ?_
    refine lv_istore_n (lv' := [(1, .int 0), (0, .ref p0)]) hx hb dX13_undo_37 rfl hl (by decide) rfl (fun ls hl => ?_)
    have k85181 : (0 : Int32).toInt = 0 := by decide
    have k85182 : (0 : Int32).toInt = 0 := by decide
    exact K38 213 0 0 z85179 _ _ _ _ (by omega) (by decide) (by decide) (by omega) hT hfr pf0 v85172 v85180 (lv_sub hl [1, 0] rfl)
  · have w85183 := cv_eq (rfl : z85175.toInt = z85175.toInt) (by decide : (0 : Int32).toInt = 0) c85176
    refine lv_aload_n hx hb dX13_undo_19 rfl (lv_at hl 0 rfl) ?_
    refine lv_bipush (v := 6) hx hb dX13_undo_20 (by decide) ?_
    refine t_cVi (n := 1) (C := RX13) (T := TX13) (N := 37) (As := [.int 6]) (rest := []) X hT (km268_X13_denied l G tag L F hT.2.2.2 p0 6 m0 g0) m0 g0 rfl rfl qw_1468 qw_1469 qw_1470 qw_5 qw_1471 ⟨rfl, by decide +kernel, by decide +kernel, by decide +kernel⟩ ⟨Nat.le_of_ble_eq_true rfl, Nat.le_of_ble_eq_true rfl⟩ hl rfl rfl (Nat.le_of_ble_eq_true rfl) dX13_undo_22 ⟨Nat.le_of_ble_eq_true rfl, Nat.le_of_ble_eq_true rfl⟩ (fun z85184 F H locs hT hz85184 => ?_)
    obtain ⟨hz85184, yz85184⟩ := hz85184
    have pf0 := (yz85184.1 _ 3 (Or.inr (by decide)) (Or.inr (by decide))).trans pf0
    have v85172 := (yz85184.1 _ 0 (Or.inr (by decide)) (Or.inr (by decide))).trans v85172
    have hv85174 := (yz85184.1 _ 20 (Or.inr (by decide)) (Or.inr (by decide))).trans hv85174
    have hfr : (∀ b j : Nat, (tag b ≠ 46 ∨ j ≠ 0) → (tag b ≠ 46 ∨ j ≠ 1) → (tag b ≠ 46 ∨ j ≠ 2) → (tag b ≠ 46 ∨ j ≠ 20) → fld F b j = fld Fo b j) ∧ (∀ b j : Nat, tag b ≠ 37 → elm F b j = elm Fo b j) := ⟨fun b j n46_0 n46_1 n46_2 n46_20 => (yz85184.1 b j n46_1 n46_2).trans (hfr.1 b j n46_0 n46_1 n46_2 n46_20), fun b j a37 => (yz85184.2 b j ).trans (hfr.2 b j a37)⟩
    exact t_zret hQ X hT (nar_z (by omega)) (⟨(by omega), hfr⟩) (Nat.le_of_ble_eq_true rfl) (Nat.le_of_ble_eq_true rfl) dX13_undo_25
set_option maxHeartbeats 4000000 in
set_option maxRecDepth 100000 in
theorem km286_X13_undo (l : Launch) (G : KG) (tag : Nat → Nat) (L : List Nat) (Fo : Nat → va_E) (ho : okT G ttC tag L Fo) (p0 : Nat) (m0 : p0 ∈ L) (g0 : tag p0 = 46) (pf0 : fld Fo p0 3 = .null) : TMi l yX13_undo cX13_undo 2 (some .boolean) { frames := 2, cells := 0, slots := 0, locals := 42 } G ttC tag L Fo [.ref p0] (fun r F1 => (0 ≤ r.toInt ∧ r.toInt ≤ 1) ∧ ((∀ b j : Nat, (tag b ≠ 46 ∨ j ≠ 0) → (tag b ≠ 46 ∨ j ≠ 1) → (tag b ≠ 46 ∨ j ≠ 2) → (tag b ≠ 46 ∨ j ≠ 20) → fld F1 b j = fld Fo b j) ∧ (∀ b j : Nat, tag b ≠ 37 → elm F1 b j = elm Fo b j))) := by
  refine t_bodyi (y := yX13_undo) (cd := cX13_undo) (mL := 2) (rt := (some .boolean)) (rm := { frames := 2, cells := 0, slots := 0, locals := 42 }) (av := [.ref p0]) (by decide) (Nat.le_of_ble_eq_true rfl) ho ?_
  intro p e s m args below meth c ls A Q hQ X hT hl
  have hx := X.1.1
  have hb := X.1.2.1
  have hl : lv_has ls 2 [(0, .ref p0)] := hl
  obtain ⟨F, hFo⟩ : ∃ F : Nat → va_E, F = Fo := ⟨_, rfl⟩
  rw [← hFo] at hT pf0
  have hfr : (∀ b j : Nat, (tag b ≠ 46 ∨ j ≠ 0) → (tag b ≠ 46 ∨ j ≠ 1) → (tag b ≠ 46 ∨ j ≠ 2) → (tag b ≠ 46 ∨ j ≠ 20) → fld F b j = fld Fo b j) ∧ (∀ b j : Nat, tag b ≠ 37 → elm F b j = elm Fo b j) := by
    rw [hFo]
    exact ⟨by intros; rfl, by intros; rfl⟩
  refine lv_aload_n hx hb dX13_undo_0 rfl (lv_at hl 0 rfl) ?_
  refine lv_iconst (v := 0) hx hb dX13_undo_1 (by decide) ?_
  refine t_put (C := RX13) (T := TX13) (N := 37) (v := .int 0) X hT m0 g0 rfl tyX13 tyX13_ok nmX13 rfl 0 (by decide) qw_140 inlX13 rfl (by first | rfl | decide) (by first | rfl | decide) rfl (⟨_, rfl, (show (-2147483648) ≤ (0 : Int32).toInt from (by decide)), (show (0 : Int32).toInt ≤ 2147483647 from (by decide))⟩) dX13_undo_2 (fun F H locs hT v85218 h1v85218 h2v85218 => ?_)
  have pf0 := (h1v85218 _ _ (Or.inr (by decide))).trans pf0
  have hfr : (∀ b j : Nat, (tag b ≠ 46 ∨ j ≠ 0) → (tag b ≠ 46 ∨ j ≠ 1) → (tag b ≠ 46 ∨ j ≠ 2) → (tag b ≠ 46 ∨ j ≠ 20) → fld F b j = fld Fo b j) ∧ (∀ b j : Nat, tag b ≠ 37 → elm F b j = elm Fo b j) := ⟨fun b j n46_0 n46_1 n46_2 n46_20 => (h1v85218 b j (fr_ne g0 n46_0)).trans (hfr.1 b j n46_0 n46_1 n46_2 n46_20), fun b j a37 => (h2v85218 b j).trans (hfr.2 b j a37)⟩
  refine lv_aload_n hx hb dX13_undo_5 rfl (lv_at hl 0 rfl) ?_
  refine t_get (C := RX13) (T := TX13) (N := 37) X hT m0 g0 rfl rfl 3 (by decide) qw_481 inlX13 rfl dX13_undo_6 (fun v85219 hv85219 ov85219 => ?_)
  obtain rfl : v85219 = .null := hv85219.symm.trans pf0
  refine lv_ifnullN (tgt := 19) hx hb dX13_undo_9 (by decide) ?_
  refine lv_aload_n hx hb dX13_undo_19 rfl (lv_at hl 0 rfl) ?_
  refine lv_bipush (v := 6) hx hb dX13_undo_20 (by decide) ?_
  refine t_cVi (n := 1) (C := RX13) (T := TX13) (N := 37) (As := [.int 6]) (rest := []) X hT (km268_X13_denied l G tag L F hT.2.2.2 p0 6 m0 g0) m0 g0 rfl rfl qw_1468 qw_1469 qw_1470 qw_5 qw_1471 ⟨rfl, by decide +kernel, by decide +kernel, by decide +kernel⟩ ⟨Nat.le_of_ble_eq_true rfl, Nat.le_of_ble_eq_true rfl⟩ hl rfl rfl (Nat.le_of_ble_eq_true rfl) dX13_undo_22 ⟨Nat.le_of_ble_eq_true rfl, Nat.le_of_ble_eq_true rfl⟩ (fun z85220 F H locs hT hz85220 => ?_)
  obtain ⟨hz85220, yz85220⟩ := hz85220
  have pf0 := (yz85220.1 _ 3 (Or.inr (by decide)) (Or.inr (by decide))).trans pf0
  have v85218 := (yz85220.1 _ 0 (Or.inr (by decide)) (Or.inr (by decide))).trans v85218
  have hfr : (∀ b j : Nat, (tag b ≠ 46 ∨ j ≠ 0) → (tag b ≠ 46 ∨ j ≠ 1) → (tag b ≠ 46 ∨ j ≠ 2) → (tag b ≠ 46 ∨ j ≠ 20) → fld F b j = fld Fo b j) ∧ (∀ b j : Nat, tag b ≠ 37 → elm F b j = elm Fo b j) := ⟨fun b j n46_0 n46_1 n46_2 n46_20 => (yz85220.1 b j n46_1 n46_2).trans (hfr.1 b j n46_0 n46_1 n46_2 n46_20), fun b j a37 => (yz85220.2 b j ).trans (hfr.2 b j a37)⟩
  exact t_zret hQ X hT (nar_z (by omega)) (⟨(by omega), hfr⟩) (Nat.le_of_ble_eq_true rfl) (Nat.le_of_ble_eq_true rfl) dX13_undo_25
theorem kp_X13_undo (l : Launch) (G : KG) (tag : Nat → Nat) (L : List Nat) (Fo : Nat → va_E) (ho : okT G ttC tag L Fo) (p0 : Nat) (m0 : p0 ∈ L) (g0 : tag p0 = 46) : TMi l yX13_undo cX13_undo 2 (some .boolean) { frames := 2, cells := 0, slots := 0, locals := 42 } G ttC tag L Fo [.ref p0] (fun r F1 => (0 ≤ r.toInt ∧ r.toInt ≤ 1) ∧ ((∀ b j : Nat, (tag b ≠ 46 ∨ j ≠ 0) → (tag b ≠ 46 ∨ j ≠ 1) → (tag b ≠ 46 ∨ j ≠ 2) → (tag b ≠ 46 ∨ j ≠ 20) → fld F1 b j = fld Fo b j) ∧ (∀ b j : Nat, tag b ≠ 37 → elm F1 b j = elm Fo b j))) := by
  rcases t_fldn ho m0 g0 rfl 3 rfl with h9 | ⟨b9, h9, m9, t9⟩
  · exact km286_X13_undo l G tag L Fo ho p0  m0 g0 h9 
  · exact km285_X13_undo l G tag L Fo ho p0 b9  m0 g0 m9 (tg_of t9) h9 
set_option maxHeartbeats 4000000 in
set_option maxRecDepth 100000 in
theorem km288_X13_back (l : Launch) (G : KG) (tag : Nat → Nat) (L : List Nat) (Fo : Nat → va_E) (ho : okT G ttC tag L Fo) (p0 : Nat) (p1 : Int32) (x0 : Nat) (m0 : p0 ∈ L) (g0 : tag p0 = 46) (mx0 : x0 ∈ L) (gx0 : tag x0 = 45) (pf0 : fld Fo p0 3 = .ref x0) : TMi l yX13_back cX13_back 3 (some .boolean) { frames := 2, cells := 0, slots := 0, locals := 42 } G ttC tag L Fo [.ref p0, .int p1] (fun r F1 => (0 ≤ r.toInt ∧ r.toInt ≤ 1) ∧ ((∀ b j : Nat, (tag b ≠ 46 ∨ j ≠ 0) → (tag b ≠ 46 ∨ j ≠ 1) → (tag b ≠ 46 ∨ j ≠ 2) → (tag b ≠ 46 ∨ j ≠ 20) → fld F1 b j = fld Fo b j) ∧ (∀ b j : Nat, tag b ≠ 37 → elm F1 b j = elm Fo b j))) := by
  refine t_bodyi (y := yX13_back) (cd := cX13_back) (mL := 3) (rt := (some .boolean)) (rm := { frames := 2, cells := 0, slots := 0, locals := 42 }) (av := [.ref p0, .int p1]) (by decide) (Nat.le_of_ble_eq_true rfl) ho ?_
  intro p e s m args below meth c ls A Q hQ X hT hl
  have hx := X.1.1
  have hb := X.1.2.1
  have hl : lv_has ls 3 [(0, .ref p0), (1, .int p1)] := hl
  have rp1 := rg_all p1
  obtain ⟨F, hFo⟩ : ∃ F : Nat → va_E, F = Fo := ⟨_, rfl⟩
  rw [← hFo] at hT pf0
  have hfr : (∀ b j : Nat, (tag b ≠ 46 ∨ j ≠ 0) → (tag b ≠ 46 ∨ j ≠ 1) → (tag b ≠ 46 ∨ j ≠ 2) → (tag b ≠ 46 ∨ j ≠ 20) → fld F b j = fld Fo b j) ∧ (∀ b j : Nat, tag b ≠ 37 → elm F b j = elm Fo b j) := by
    rw [hFo]
    exact ⟨by intros; rfl, by intros; rfl⟩
  have K32 : ∀ (n : Nat) (z85868 : Int32) (z85869 : Int32) (z85870 : Int32) (F : Nat → va_E) (H : Heap) (locs : List Loc) (ls : Array Slot), (212 - z85868.toInt < (n : Int)) → (0 ≤ z85868.toInt ∧ z85868.toInt ≤ 212) → (0 ≤ z85869.toInt ∧ z85869.toInt ≤ 0) → (1 ≤ z85870.toInt ∧ z85870.toInt ≤ 3) → (0 ≤ p1.toInt ∧ p1.toInt ≤ 2) → TH G ttC A s tag L F H locs → ((∀ b j : Nat, (tag b ≠ 46 ∨ j ≠ 0) → (tag b ≠ 46 ∨ j ≠ 1) → (tag b ≠ 46 ∨ j ≠ 2) → (tag b ≠ 46 ∨ j ≠ 20) → fld F b j = fld Fo b j) ∧ (∀ b j : Nat, tag b ≠ 37 → elm F b j = elm Fo b j)) → (fld F p0 3 = .ref x0) → (fld F p0 0 = .int z85869) → (fld F p0 21 = .int z85870) → lv_has ls 3 [(0, .ref p0), (1, .int p1), (2, .int z85868)] → W p l e { frames := 2, cells := 0, slots := 0, locals := 42 } s m args below meth c H locs 0 0 Q (F0 m 32 ls []) := by
    intro n
    induction n with
    | zero =>
      intro z85868 z85869 z85870 F H locs ls hn rz85868 rz85869 rz85870 r9s85867 hT hfr pf0 qz85869 qz85870 hl
      exfalso
      omega
    | succ n ih32 =>
      intro z85868 z85869 z85870 F H locs ls hn rz85868 rz85869 rz85870 r9s85867 hT hfr pf0 qz85869 qz85870 hl
      refine lv_iload_n hx hb dX13_back_32 rfl (lv_at hl 2 rfl) ?_
      refine lv_sipush (v := 212) hx hb dX13_back_33 (by decide) ?_
      refine lv_icmp_ge (tgt := 63) hx hb dX13_back_36 (by decide) (fun c85871 => ?_) (fun c85871 => ?_)
      · have w85872 := cv_le (by decide : (212 : Int32).toInt = 212) (rfl : z85868.toInt = z85868.toInt) c85871
        refine lv_aload_n hx hb dX13_back_63 rfl (lv_at hl 0 rfl) ?_
        refine lv_iconst (v := 0) hx hb dX13_back_64 (by decide) ?_
        refine t_put (C := RX13) (T := TX13) (N := 37) (v := .int 0) X hT m0 g0 rfl tyX13 tyX13_ok nmX13 rfl 20 (by decide) qw_482 inlX13 rfl (by first | rfl | decide) (by first | rfl | decide) rfl (⟨_, rfl, (show 0 ≤ (0 : Int32).toInt from (by decide)), (show (0 : Int32).toInt ≤ 10 from (by decide))⟩) dX13_back_65 (fun F H locs hT v85873 h1v85873 h2v85873 => ?_)
        have qz85869 := (h1v85873 _ _ (Or.inr (by decide))).trans qz85869
        have qz85870 := (h1v85873 _ _ (Or.inr (by decide))).trans qz85870
        have pf0 := (h1v85873 _ _ (Or.inr (by decide))).trans pf0
        have hfr : (∀ b j : Nat, (tag b ≠ 46 ∨ j ≠ 0) → (tag b ≠ 46 ∨ j ≠ 1) → (tag b ≠ 46 ∨ j ≠ 2) → (tag b ≠ 46 ∨ j ≠ 20) → fld F b j = fld Fo b j) ∧ (∀ b j : Nat, tag b ≠ 37 → elm F b j = elm Fo b j) := ⟨fun b j n46_0 n46_1 n46_2 n46_20 => (h1v85873 b j (fr_ne g0 n46_20)).trans (hfr.1 b j n46_0 n46_1 n46_2 n46_20), fun b j a37 => (h2v85873 b j).trans (hfr.2 b j a37)⟩
        refine lv_aload_n hx hb dX13_back_68 rfl (lv_at hl 0 rfl) ?_
        refine t_cVi (n := 0) (C := RX13) (T := TX13) (N := 37) (As := []) (rest := []) X hT (km269_X13_granted l G tag L F hT.2.2.2 p0 m0 g0) m0 g0 rfl rfl qw_1472 qw_1473 qw_1474 qw_5 qw_1475 ⟨rfl, by decide +kernel, by decide +kernel, by decide +kernel⟩ ⟨Nat.le_of_ble_eq_true rfl, Nat.le_of_ble_eq_true rfl⟩ hl rfl rfl (Nat.le_of_ble_eq_true rfl) dX13_back_69 ⟨Nat.le_of_ble_eq_true rfl, Nat.le_of_ble_eq_true rfl⟩ (fun z85874 F H locs hT hz85874 => ?_)
        obtain ⟨hz85874, yz85874⟩ := hz85874
        have qz85869 := (yz85874.1 _ 0 (Or.inr (by decide)) (Or.inr (by decide))).trans qz85869
        have qz85870 := (yz85874.1 _ 21 (Or.inr (by decide)) (Or.inr (by decide))).trans qz85870
        have pf0 := (yz85874.1 _ 3 (Or.inr (by decide)) (Or.inr (by decide))).trans pf0
        have v85873 := (yz85874.1 _ 20 (Or.inr (by decide)) (Or.inr (by decide))).trans v85873
        have hfr : (∀ b j : Nat, (tag b ≠ 46 ∨ j ≠ 0) → (tag b ≠ 46 ∨ j ≠ 1) → (tag b ≠ 46 ∨ j ≠ 2) → (tag b ≠ 46 ∨ j ≠ 20) → fld F b j = fld Fo b j) ∧ (∀ b j : Nat, tag b ≠ 37 → elm F b j = elm Fo b j) := ⟨fun b j n46_0 n46_1 n46_2 n46_20 => (yz85874.1 b j n46_1 n46_2).trans (hfr.1 b j n46_0 n46_1 n46_2 n46_20), fun b j a37 => (yz85874.2 b j ).trans (hfr.2 b j a37)⟩
        exact t_zret hQ X hT (nar_z (by omega)) (⟨(by omega), hfr⟩) (Nat.le_of_ble_eq_true rfl) (Nat.le_of_ble_eq_true rfl) dX13_back_72
      · have w85875 := cv_nle (by decide : (212 : Int32).toInt = 212) (rfl : z85868.toInt = z85868.toInt) c85871
        refine lv_aload_n hx hb dX13_back_39 rfl (lv_at hl 0 rfl) ?_
        refine t_get (C := RX13) (T := TX13) (N := 37) X hT m0 g0 rfl rfl 16 (by decide) qw_112 inlX13 rfl dX13_back_40 (fun v85876 hv85876 ov85876 => ?_)
        obtain ⟨b85877, rfl, mb85877, gb85877⟩ := okV_r ov85876
        have gb85877 : tag b85877 = 37 := tg_of gb85877
        refine lv_iload_n hx hb dX13_back_43 rfl (lv_at hl 2 rfl) ?_
        refine lv_aload_n hx hb dX13_back_44 rfl (lv_at hl 0 rfl) ?_
        refine t_get (C := RX13) (T := TX13) (N := 37) X hT m0 g0 rfl rfl 19 (by decide) qw_115 inlX13 rfl dX13_back_45 (fun v85878 hv85878 ov85878 => ?_)
        obtain ⟨b85879, rfl, mb85879, gb85879⟩ := okV_r ov85878
        have gb85879 : tag b85879 = 39 := tg_of gb85879
        refine lv_sipush (v := 212) hx hb dX13_back_48 (by decide) ?_
        refine lv_iload_n hx hb dX13_back_51 rfl (lv_at hl 1 rfl) ?_
        refine lv_imul hx hb dX13_back_52 ?_
        refine lv_topi (fun z85880 ez85880 => ?_)
        have hz85880 : z85880.toInt = 212 * p1.toInt := ar_mul ez85880 (by decide : (212 : Int32).toInt = 212) (rfl : p1.toInt = p1.toInt) (by omega) (by omega)
        have rz85880 : 0 ≤ z85880.toInt ∧ z85880.toInt ≤ 424 := by omega
        refine lv_iload_n hx hb dX13_back_53 rfl (lv_at hl 2 rfl) ?_
        refine lv_iadd hx hb dX13_back_54 ?_
        refine lv_topi (fun z85881 ez85881 => ?_)
        have hz85881 : z85881.toInt = z85880.toInt + z85868.toInt := ar_add ez85881 (rfl : z85880.toInt = z85880.toInt) (rfl : z85868.toInt = z85868.toInt) (by omega) (by omega)
        have rz85881 : 0 ≤ z85881.toInt ∧ z85881.toInt ≤ 635 := by omega
        refine t_ild X hT mb85879 gb85879 rfl (by omega) dX13_back_55 (fun z85882 vz85882 rz85882 => ?_)
        have oz85882 := rz85882
        have rz85882 := rg_all z85882
        refine t_ist X hT mb85877 gb85877 rfl (by omega) (row_c2 (a := p1.toInt) (by omega) (by omega) (by omega) oz85882) dX13_back_56 (fun F H locs hT v85883 h1v85883 h2v85883 => ?_)
        have qz85869 := (h2v85883 _ _).trans qz85869
        have qz85870 := (h2v85883 _ _).trans qz85870
        have pf0 := (h2v85883 _ _).trans pf0
        have hv85876 := (h2v85883 _ _).trans hv85876
        have hv85878 := (h2v85883 _ _).trans hv85878
        have vz85882 := (h1v85883 _ _ (Or.inl (tne gb85879 gb85877 (by decide)))).trans vz85882
        have hfr : (∀ b j : Nat, (tag b ≠ 46 ∨ j ≠ 0) → (tag b ≠ 46 ∨ j ≠ 1) → (tag b ≠ 46 ∨ j ≠ 2) → (tag b ≠ 46 ∨ j ≠ 20) → fld F b j = fld Fo b j) ∧ (∀ b j : Nat, tag b ≠ 37 → elm F b j = elm Fo b j) := ⟨fun b j n46_0 n46_1 n46_2 n46_20 => (h2v85883 b j).trans (hfr.1 b j n46_0 n46_1 n46_2 n46_20), fun b j a37 => (h1v85883 b j (Or.inl (at_ne gb85877 a37))).trans (hfr.2 b j a37)⟩
        obtain ⟨z85884, ez85884⟩ : ∃ y : Int32, y = z85868 + 1 := ⟨_, rfl⟩
        have hz85884 : z85884.toInt = z85868.toInt + 1 := ar_add ez85884 rfl (by decide : (1 : Int32).toInt = 1) (by omega) (by omega)
        refine lv_iinc (v := z85884) (lv' := [(2, .int z85884), (0, .ref p0), (1, .int p1)]) hx hb dX13_back_57 hl (k := 2) rfl (by rw [ez85884]; rfl) (by decide) rfl (fun ls hl => ?_)
        refine lv_goto (tgt := 32) hx hb dX13_back_60 (by decide) ?_
        exact ih32 z85884 z85869 z85870 _ _ _ _ (by omega) (by omega) (by omega) (by omega) (by omega) hT hfr pf0 qz85869 qz85870 (lv_sub hl [1, 2, 0] rfl)
  refine lv_aload_n hx hb dX13_back_0 rfl (lv_at hl 0 rfl) ?_
  refine lv_iconst (v := 0) hx hb dX13_back_1 (by decide) ?_
  refine t_put (C := RX13) (T := TX13) (N := 37) (v := .int 0) X hT m0 g0 rfl tyX13 tyX13_ok nmX13 rfl 0 (by decide) qw_140 inlX13 rfl (by first | rfl | decide) (by first | rfl | decide) rfl (⟨_, rfl, (show (-2147483648) ≤ (0 : Int32).toInt from (by decide)), (show (0 : Int32).toInt ≤ 2147483647 from (by decide))⟩) dX13_back_2 (fun F H locs hT v85885 h1v85885 h2v85885 => ?_)
  have pf0 := (h1v85885 _ _ (Or.inr (by decide))).trans pf0
  have hfr : (∀ b j : Nat, (tag b ≠ 46 ∨ j ≠ 0) → (tag b ≠ 46 ∨ j ≠ 1) → (tag b ≠ 46 ∨ j ≠ 2) → (tag b ≠ 46 ∨ j ≠ 20) → fld F b j = fld Fo b j) ∧ (∀ b j : Nat, tag b ≠ 37 → elm F b j = elm Fo b j) := ⟨fun b j n46_0 n46_1 n46_2 n46_20 => (h1v85885 b j (fr_ne g0 n46_0)).trans (hfr.1 b j n46_0 n46_1 n46_2 n46_20), fun b j a37 => (h2v85885 b j).trans (hfr.2 b j a37)⟩
  refine lv_aload_n hx hb dX13_back_5 rfl (lv_at hl 0 rfl) ?_
  refine t_get (C := RX13) (T := TX13) (N := 37) X hT m0 g0 rfl rfl 3 (by decide) qw_481 inlX13 rfl dX13_back_6 (fun v85886 hv85886 ov85886 => ?_)
  obtain rfl : v85886 = .ref x0 := hv85886.symm.trans pf0
  refine lv_ifnull hx hb dX13_back_9 ?_
  refine lv_iload_n hx hb dX13_back_12 rfl (lv_at hl 1 rfl) ?_
  refine lv_if_lt (tgt := 24) hx hb dX13_back_13 (by decide) (fun c85887 => ?_) (fun c85887 => ?_)
  · have w85888 := cv_lt (rfl : p1.toInt = p1.toInt) (by decide : (0 : Int32).toInt = 0) c85887
    refine lv_aload_n hx hb dX13_back_24 rfl (lv_at hl 0 rfl) ?_
    refine lv_iconst (v := 1) hx hb dX13_back_25 (by decide) ?_
    refine t_cVi (n := 1) (C := RX13) (T := TX13) (N := 37) (As := [.int 1]) (rest := []) X hT (km268_X13_denied l G tag L F hT.2.2.2 p0 1 m0 g0) m0 g0 rfl rfl qw_1468 qw_1469 qw_1470 qw_5 qw_1471 ⟨rfl, by decide +kernel, by decide +kernel, by decide +kernel⟩ ⟨Nat.le_of_ble_eq_true rfl, Nat.le_of_ble_eq_true rfl⟩ hl rfl rfl (Nat.le_of_ble_eq_true rfl) dX13_back_26 ⟨Nat.le_of_ble_eq_true rfl, Nat.le_of_ble_eq_true rfl⟩ (fun z85889 F H locs hT hz85889 => ?_)
    obtain ⟨hz85889, yz85889⟩ := hz85889
    have pf0 := (yz85889.1 _ 3 (Or.inr (by decide)) (Or.inr (by decide))).trans pf0
    have v85885 := (yz85889.1 _ 0 (Or.inr (by decide)) (Or.inr (by decide))).trans v85885
    have hfr : (∀ b j : Nat, (tag b ≠ 46 ∨ j ≠ 0) → (tag b ≠ 46 ∨ j ≠ 1) → (tag b ≠ 46 ∨ j ≠ 2) → (tag b ≠ 46 ∨ j ≠ 20) → fld F b j = fld Fo b j) ∧ (∀ b j : Nat, tag b ≠ 37 → elm F b j = elm Fo b j) := ⟨fun b j n46_0 n46_1 n46_2 n46_20 => (yz85889.1 b j n46_1 n46_2).trans (hfr.1 b j n46_0 n46_1 n46_2 n46_20), fun b j a37 => (yz85889.2 b j ).trans (hfr.2 b j a37)⟩
    exact t_zret hQ X hT (nar_z (by omega)) (⟨(by omega), hfr⟩) (Nat.le_of_ble_eq_true rfl) (Nat.le_of_ble_eq_true rfl) dX13_back_29
  · have w85890 := cv_nlt (rfl : p1.toInt = p1.toInt) (by decide : (0 : Int32).toInt = 0) c85887
    refine lv_iload_n hx hb dX13_back_16 rfl (lv_at hl 1 rfl) ?_
    refine lv_aload_n hx hb dX13_back_17 rfl (lv_at hl 0 rfl) ?_
    refine t_get (C := RX13) (T := TX13) (N := 37) X hT m0 g0 rfl rfl 21 (by decide) qw_483 inlX13 rfl dX13_back_18 (fun v85891 hv85891 ov85891 => ?_)
    obtain ⟨z85892, rfl, rz85892⟩ := okV_i ov85891
    refine lv_icmp_lt (tgt := 30) hx hb dX13_back_21 (by decide) (fun c85893 => ?_) (fun c85893 => ?_)
    · have w85894 := cv_lt (rfl : p1.toInt = p1.toInt) (rfl : z85892.toInt = z85892.toInt) c85893
      refine lv_iconst (v := 0) hx hb dX13_back_30 (by decide) ?_
      refine lv_istore_n (lv' := [(2, .int 0), (0, .ref p0), (1, .int p1)]) hx hb dX13_back_31 rfl hl (by decide) rfl (fun ls hl => ?_)
      have k85895 : (0 : Int32).toInt = 0 := by decide
      have k85896 : (0 : Int32).toInt = 0 := by decide
      exact K32 213 0 0 z85892 _ _ _ _ (by omega) (by decide) (by decide) (by omega) (by omega) hT hfr pf0 v85885 hv85891 (lv_sub hl [1, 2, 0] rfl)
    · have w85897 := cv_nlt (rfl : p1.toInt = p1.toInt) (rfl : z85892.toInt = z85892.toInt) c85893
      refine lv_aload_n hx hb dX13_back_24 rfl (lv_at hl 0 rfl) ?_
      refine lv_iconst (v := 1) hx hb dX13_back_25 (by decide) ?_
      refine t_cVi (n := 1) (C := RX13) (T := TX13) (N := 37) (As := [.int 1]) (rest := []) X hT (km268_X13_denied l G tag L F hT.2.2.2 p0 1 m0 g0) m0 g0 rfl rfl qw_1468 qw_1469 qw_1470 qw_5 qw_1471 ⟨rfl, by decide +kernel, by decide +kernel, by decide +kernel⟩ ⟨Nat.le_of_ble_eq_true rfl, Nat.le_of_ble_eq_true rfl⟩ hl rfl rfl (Nat.le_of_ble_eq_true rfl) dX13_back_26 ⟨Nat.le_of_ble_eq_true rfl, Nat.le_of_ble_eq_true rfl⟩ (fun z85898 F H locs hT hz85898 => ?_)
      obtain ⟨hz85898, yz85898⟩ := hz85898
      have pf0 := (yz85898.1 _ 3 (Or.inr (by decide)) (Or.inr (by decide))).trans pf0
      have v85885 := (yz85898.1 _ 0 (Or.inr (by decide)) (Or.inr (by decide))).trans v85885
      have hv85891 := (yz85898.1 _ 21 (Or.inr (by decide)) (Or.inr (by decide))).trans hv85891
      have hfr : (∀ b j : Nat, (tag b ≠ 46 ∨ j ≠ 0) → (tag b ≠ 46 ∨ j ≠ 1) → (tag b ≠ 46 ∨ j ≠ 2) → (tag b ≠ 46 ∨ j ≠ 20) → fld F b j = fld Fo b j) ∧ (∀ b j : Nat, tag b ≠ 37 → elm F b j = elm Fo b j) := ⟨fun b j n46_0 n46_1 n46_2 n46_20 => (yz85898.1 b j n46_1 n46_2).trans (hfr.1 b j n46_0 n46_1 n46_2 n46_20), fun b j a37 => (yz85898.2 b j ).trans (hfr.2 b j a37)⟩
      exact t_zret hQ X hT (nar_z (by omega)) (⟨(by omega), hfr⟩) (Nat.le_of_ble_eq_true rfl) (Nat.le_of_ble_eq_true rfl) dX13_back_29
set_option maxHeartbeats 4000000 in
set_option maxRecDepth 100000 in
theorem km289_X13_back (l : Launch) (G : KG) (tag : Nat → Nat) (L : List Nat) (Fo : Nat → va_E) (ho : okT G ttC tag L Fo) (p0 : Nat) (p1 : Int32) (m0 : p0 ∈ L) (g0 : tag p0 = 46) (pf0 : fld Fo p0 3 = .null) : TMi l yX13_back cX13_back 3 (some .boolean) { frames := 2, cells := 0, slots := 0, locals := 42 } G ttC tag L Fo [.ref p0, .int p1] (fun r F1 => (0 ≤ r.toInt ∧ r.toInt ≤ 1) ∧ ((∀ b j : Nat, (tag b ≠ 46 ∨ j ≠ 0) → (tag b ≠ 46 ∨ j ≠ 1) → (tag b ≠ 46 ∨ j ≠ 2) → (tag b ≠ 46 ∨ j ≠ 20) → fld F1 b j = fld Fo b j) ∧ (∀ b j : Nat, tag b ≠ 37 → elm F1 b j = elm Fo b j))) := by
  refine t_bodyi (y := yX13_back) (cd := cX13_back) (mL := 3) (rt := (some .boolean)) (rm := { frames := 2, cells := 0, slots := 0, locals := 42 }) (av := [.ref p0, .int p1]) (by decide) (Nat.le_of_ble_eq_true rfl) ho ?_
  intro p e s m args below meth c ls A Q hQ X hT hl
  have hx := X.1.1
  have hb := X.1.2.1
  have hl : lv_has ls 3 [(0, .ref p0), (1, .int p1)] := hl
  have rp1 := rg_all p1
  obtain ⟨F, hFo⟩ : ∃ F : Nat → va_E, F = Fo := ⟨_, rfl⟩
  rw [← hFo] at hT pf0
  have hfr : (∀ b j : Nat, (tag b ≠ 46 ∨ j ≠ 0) → (tag b ≠ 46 ∨ j ≠ 1) → (tag b ≠ 46 ∨ j ≠ 2) → (tag b ≠ 46 ∨ j ≠ 20) → fld F b j = fld Fo b j) ∧ (∀ b j : Nat, tag b ≠ 37 → elm F b j = elm Fo b j) := by
    rw [hFo]
    exact ⟨by intros; rfl, by intros; rfl⟩
  refine lv_aload_n hx hb dX13_back_0 rfl (lv_at hl 0 rfl) ?_
  refine lv_iconst (v := 0) hx hb dX13_back_1 (by decide) ?_
  refine t_put (C := RX13) (T := TX13) (N := 37) (v := .int 0) X hT m0 g0 rfl tyX13 tyX13_ok nmX13 rfl 0 (by decide) qw_140 inlX13 rfl (by first | rfl | decide) (by first | rfl | decide) rfl (⟨_, rfl, (show (-2147483648) ≤ (0 : Int32).toInt from (by decide)), (show (0 : Int32).toInt ≤ 2147483647 from (by decide))⟩) dX13_back_2 (fun F H locs hT v85932 h1v85932 h2v85932 => ?_)
  have pf0 := (h1v85932 _ _ (Or.inr (by decide))).trans pf0
  have hfr : (∀ b j : Nat, (tag b ≠ 46 ∨ j ≠ 0) → (tag b ≠ 46 ∨ j ≠ 1) → (tag b ≠ 46 ∨ j ≠ 2) → (tag b ≠ 46 ∨ j ≠ 20) → fld F b j = fld Fo b j) ∧ (∀ b j : Nat, tag b ≠ 37 → elm F b j = elm Fo b j) := ⟨fun b j n46_0 n46_1 n46_2 n46_20 => (h1v85932 b j (fr_ne g0 n46_0)).trans (hfr.1 b j n46_0 n46_1 n46_2 n46_20), fun b j a37 => (h2v85932 b j).trans (hfr.2 b j a37)⟩
  refine lv_aload_n hx hb dX13_back_5 rfl (lv_at hl 0 rfl) ?_
  refine t_get (C := RX13) (T := TX13) (N := 37) X hT m0 g0 rfl rfl 3 (by decide) qw_481 inlX13 rfl dX13_back_6 (fun v85933 hv85933 ov85933 => ?_)
  obtain rfl : v85933 = .null := hv85933.symm.trans pf0
  refine lv_ifnullN (tgt := 24) hx hb dX13_back_9 (by decide) ?_
  refine lv_aload_n hx hb dX13_back_24 rfl (lv_at hl 0 rfl) ?_
  refine lv_iconst (v := 1) hx hb dX13_back_25 (by decide) ?_
  refine t_cVi (n := 1) (C := RX13) (T := TX13) (N := 37) (As := [.int 1]) (rest := []) X hT (km268_X13_denied l G tag L F hT.2.2.2 p0 1 m0 g0) m0 g0 rfl rfl qw_1468 qw_1469 qw_1470 qw_5 qw_1471 ⟨rfl, by decide +kernel, by decide +kernel, by decide +kernel⟩ ⟨Nat.le_of_ble_eq_true rfl, Nat.le_of_ble_eq_true rfl⟩ hl rfl rfl (Nat.le_of_ble_eq_true rfl) dX13_back_26 ⟨Nat.le_of_ble_eq_true rfl, Nat.le_of_ble_eq_true rfl⟩ (fun z85934 F H locs hT hz85934 => ?_)
  obtain ⟨hz85934, yz85934⟩ := hz85934
  have pf0 := (yz85934.1 _ 3 (Or.inr (by decide)) (Or.inr (by decide))).trans pf0
  have v85932 := (yz85934.1 _ 0 (Or.inr (by decide)) (Or.inr (by decide))).trans v85932
  have hfr : (∀ b j : Nat, (tag b ≠ 46 ∨ j ≠ 0) → (tag b ≠ 46 ∨ j ≠ 1) → (tag b ≠ 46 ∨ j ≠ 2) → (tag b ≠ 46 ∨ j ≠ 20) → fld F b j = fld Fo b j) ∧ (∀ b j : Nat, tag b ≠ 37 → elm F b j = elm Fo b j) := ⟨fun b j n46_0 n46_1 n46_2 n46_20 => (yz85934.1 b j n46_1 n46_2).trans (hfr.1 b j n46_0 n46_1 n46_2 n46_20), fun b j a37 => (yz85934.2 b j ).trans (hfr.2 b j a37)⟩
  exact t_zret hQ X hT (nar_z (by omega)) (⟨(by omega), hfr⟩) (Nat.le_of_ble_eq_true rfl) (Nat.le_of_ble_eq_true rfl) dX13_back_29
theorem kp_X13_back (l : Launch) (G : KG) (tag : Nat → Nat) (L : List Nat) (Fo : Nat → va_E) (ho : okT G ttC tag L Fo) (p0 : Nat) (p1 : Int32) (m0 : p0 ∈ L) (g0 : tag p0 = 46) : TMi l yX13_back cX13_back 3 (some .boolean) { frames := 2, cells := 0, slots := 0, locals := 42 } G ttC tag L Fo [.ref p0, .int p1] (fun r F1 => (0 ≤ r.toInt ∧ r.toInt ≤ 1) ∧ ((∀ b j : Nat, (tag b ≠ 46 ∨ j ≠ 0) → (tag b ≠ 46 ∨ j ≠ 1) → (tag b ≠ 46 ∨ j ≠ 2) → (tag b ≠ 46 ∨ j ≠ 20) → fld F1 b j = fld Fo b j) ∧ (∀ b j : Nat, tag b ≠ 37 → elm F1 b j = elm Fo b j))) := by
  rcases t_fldn ho m0 g0 rfl 3 rfl with h9 | ⟨b9, h9, m9, t9⟩
  · exact km289_X13_back l G tag L Fo ho p0 p1  m0 g0 h9 
  · exact km288_X13_back l G tag L Fo ho p0 p1 b9  m0 g0 m9 (tg_of t9) h9 
