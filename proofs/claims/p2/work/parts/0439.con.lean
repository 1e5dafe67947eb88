set_option maxHeartbeats 4000000 in
set_option maxRecDepth 100000 in
theorem km280_X13_give (l : Launch) (G : KG) (tag : Nat → Nat) (L : List Nat) (Fo : Nat → va_E) (ho : okT G ttC tag L Fo) (p0 : Nat) (p1 : Int32) (p2 : Int32) (p3 : Int32) (m0 : p0 ∈ L) (g0 : tag p0 = 46) (pf0 : fld Fo p0 3 = .null) : TMi l yX13_give cX13_give 4 (some .boolean) { frames := 2, cells := 0, slots := 0, locals := 42 } G ttC tag L Fo [.ref p0, .int p1, .int p2, .int p3] (fun r F1 => (0 ≤ r.toInt ∧ r.toInt ≤ 1) ∧ ((∀ b j : Nat, (tag b ≠ 46 ∨ j ≠ 0) → (tag b ≠ 46 ∨ j ≠ 1) → (tag b ≠ 46 ∨ j ≠ 2) → (tag b ≠ 46 ∨ j ≠ 20) → fld F1 b j = fld Fo b j) ∧ (∀ b j : Nat, tag b ≠ 37 → tag b ≠ 38 → elm F1 b j = elm Fo b j))) := by
  refine t_bodyi (y := yX13_give) (cd := cX13_give) (mL := 4) (rt := (some .boolean)) (rm := { frames := 2, cells := 0, slots := 0, locals := 42 }) (av := [.ref p0, .int p1, .int p2, .int p3]) (by decide) (Nat.le_of_ble_eq_true rfl) ho ?_
  intro p e s m args below meth c ls A Q hQ X hT hl
  have hx := X.1.1
  have hb := X.1.2.1
  have hl : lv_has ls 4 [(0, .ref p0), (1, .int p1), (2, .int p2), (3, .int p3)] := hl
  have rp1 := rg_all p1
  have rp2 := rg_all p2
  have rp3 := rg_all p3
  obtain ⟨F, hFo⟩ : ∃ F : Nat → va_E, F = Fo := ⟨_, rfl⟩
  rw [← hFo] at hT pf0
  have hfr : (∀ b j : Nat, (tag b ≠ 46 ∨ j ≠ 0) → (tag b ≠ 46 ∨ j ≠ 1) → (tag b ≠ 46 ∨ j ≠ 2) → (tag b ≠ 46 ∨ j ≠ 20) → fld F b j = fld Fo b j) ∧ (∀ b j : Nat, tag b ≠ 37 → tag b ≠ 38 → elm F b j = elm Fo b j) := by
    rw [hFo]
    exact ⟨by intros; rfl, by intros; rfl⟩
  refine lv_aload_n hx hb dX13_give_0 rfl (lv_at hl 0 rfl) ?_
  refine lv_iconst (v := 0) hx hb dX13_give_1 (by decide) ?_
  refine t_put (C := RX13) (T := TX13) (N := 37) (v := .int 0) X hT m0 g0 rfl tyX13 tyX13_ok nmX13 rfl 0 (by decide) qw_140 inlX13 rfl (by first | rfl | decide) (by first | rfl | decide) rfl (⟨_, rfl, (show (-2147483648) ≤ (0 : Int32).toInt from (by decide)), (show (0 : Int32).toInt ≤ 2147483647 from (by decide))⟩) dX13_give_2 (fun F H locs hT v84103 h1v84103 h2v84103 => ?_)
  have pf0 := (h1v84103 _ _ (Or.inr (by decide))).trans pf0
  have hfr : (∀ b j : Nat, (tag b ≠ 46 ∨ j ≠ 0) → (tag b ≠ 46 ∨ j ≠ 1) → (tag b ≠ 46 ∨ j ≠ 2) → (tag b ≠ 46 ∨ j ≠ 20) → fld F b j = fld Fo b j) ∧ (∀ b j : Nat, tag b ≠ 37 → tag b ≠ 38 → elm F b j = elm Fo b j) := ⟨fun b j n46_0 n46_1 n46_2 n46_20 => (h1v84103 b j (fr_ne g0 n46_0)).trans (hfr.1 b j n46_0 n46_1 n46_2 n46_20), fun b j a37 a38 => (h2v84103 b j).trans (hfr.2 b j a37 a38)⟩
  refine lv_aload_n hx hb dX13_give_5 rfl (lv_at hl 0 rfl) ?_
  refine lv_iload_n hx hb dX13_give_6 rfl (lv_at hl 1 rfl) ?_
  refine t_cVi (n := 1) (C := RX13) (T := TX13) (N := 37) (As := [.int p1]) (rest := []) X hT (km116_X13_isHouse l G tag L F hT.2.2.2 p0 p1 m0 g0 pf0) m0 g0 rfl rfl qw_796 qw_797 qw_798 qw_5 qw_799 ⟨rfl, by decide +kernel, by decide +kernel, by decide +kernel⟩ ⟨Nat.le_of_ble_eq_true rfl, Nat.le_of_ble_eq_true rfl⟩ hl rfl rfl (Nat.le_of_ble_eq_true rfl) dX13_give_7 ⟨Nat.le_of_ble_eq_true rfl, Nat.le_of_ble_eq_true rfl⟩ (fun z84104 F9 H locs hT hz84104 => ?_)
  obtain ⟨fz84104, hz84104⟩ := hz84104
  rw [fz84104] at hT
  refine lv_if_eq (tgt := 26) hx hb dX13_give_10 (by decide) (fun c84105 => ?_) (fun c84105 => ?_)
  · have w84106 := cv_eq (rfl : z84104.toInt = z84104.toInt) (by decide : (0 : Int32).toInt = 0) c84105
    refine lv_aload_n hx hb dX13_give_26 rfl (lv_at hl 0 rfl) ?_
    refine lv_iconst (v := 1) hx hb dX13_give_27 (by decide) ?_
    refine t_cVi (n := 1) (C := RX13) (T := TX13) (N := 37) (As := [.int 1]) (rest := []) X hT (km268_X13_denied l G tag L F hT.2.2.2 p0 1 m0 g0) m0 g0 rfl rfl qw_1468 qw_1469 qw_1470 qw_5 qw_1471 ⟨rfl, by decide +kernel, by decide +kernel, by decide +kernel⟩ ⟨Nat.le_of_ble_eq_true rfl, Nat.le_of_ble_eq_true rfl⟩ hl rfl rfl (Nat.le_of_ble_eq_true rfl) dX13_give_28 ⟨Nat.le_of_ble_eq_true rfl, Nat.le_of_ble_eq_true rfl⟩ (fun z84107 F H locs hT hz84107 => ?_)
    obtain ⟨hz84107, yz84107⟩ := hz84107
    have pf0 := (yz84107.1 _ 3 (Or.inr (by decide)) (Or.inr (by decide))).trans pf0
    have v84103 := (yz84107.1 _ 0 (Or.inr (by decide)) (Or.inr (by decide))).trans v84103
    have hfr : (∀ b j : Nat, (tag b ≠ 46 ∨ j ≠ 0) → (tag b ≠ 46 ∨ j ≠ 1) → (tag b ≠ 46 ∨ j ≠ 2) → (tag b ≠ 46 ∨ j ≠ 20) → fld F b j = fld Fo b j) ∧ (∀ b j : Nat, tag b ≠ 37 → tag b ≠ 38 → elm F b j = elm Fo b j) := ⟨fun b j n46_0 n46_1 n46_2 n46_20 => (yz84107.1 b j n46_1 n46_2).trans (hfr.1 b j n46_0 n46_1 n46_2 n46_20), fun b j a37 a38 => (yz84107.2 b j ).trans (hfr.2 b j a37 a38)⟩
    exact t_zret hQ X hT (nar_z (by omega)) (⟨(by omega), hfr⟩) (Nat.le_of_ble_eq_true rfl) (Nat.le_of_ble_eq_true rfl) dX13_give_31
  · have w84108 := cv_ne (rfl : z84104.toInt = z84104.toInt) (by decide : (0 : Int32).toInt = 0) c84105
    exfalso
    omega
theorem kp_X13_give (l : Launch) (G : KG) (tag : Nat → Nat) (L : List Nat) (Fo : Nat → va_E) (ho : okT G ttC tag L Fo) (p0 : Nat) (p1 : Int32) (p2 : Int32) (p3 : Int32) (m0 : p0 ∈ L) (g0 : tag p0 = 46) : TMi l yX13_give cX13_give 4 (some .boolean) { frames := 2, cells := 0, slots := 0, locals := 42 } G ttC tag L Fo [.ref p0, .int p1, .int p2, .int p3] (fun r F1 => (0 ≤ r.toInt ∧ r.toInt ≤ 1) ∧ ((∀ b j : Nat, (tag b ≠ 46 ∨ j ≠ 0) → (tag b ≠ 46 ∨ j ≠ 1) → (tag b ≠ 46 ∨ j ≠ 2) → (tag b ≠ 46 ∨ j ≠ 20) → fld F1 b j = fld Fo b j) ∧ (∀ b j : Nat, tag b ≠ 37 → tag b ≠ 38 → elm F1 b j = elm Fo b j))) := by
  rcases t_fldn ho m0 g0 rfl 3 rfl with h9 | ⟨b9, h9, m9, t9⟩
  · exact km280_X13_give l G tag L Fo ho p0 p1 p2 p3  m0 g0 h9 
  · exact km279_X13_give l G tag L Fo ho p0 p1 p2 p3 b9  m0 g0 m9 (tg_of t9) h9 
set_option maxHeartbeats 4000000 in
set_option maxRecDepth 100000 in
theorem km282_X13_seed (l : Launch) (G : KG) (tag : Nat → Nat) (L : List Nat) (Fo : Nat → va_E) (ho : okT G ttC tag L Fo) (p0 : Nat) (p1 : Int32) (x0 : Nat) (m0 : p0 ∈ L) (g0 : tag p0 = 46) (mx0 : x0 ∈ L) (gx0 : tag x0 = 45) (pf0 : fld Fo p0 3 = .ref x0) : TMi l yX13_seed cX13_seed 2 (some .boolean) { frames := 2, cells := 0, slots := 0, locals := 42 } G ttC tag L Fo [.ref p0, .int p1] (fun r F1 => (0 ≤ r.toInt ∧ r.toInt ≤ 1) ∧ ((∀ b j : Nat, (tag b ≠ 46 ∨ j ≠ 0) → (tag b ≠ 46 ∨ j ≠ 1) → (tag b ≠ 46 ∨ j ≠ 2) → fld F1 b j = fld Fo b j) ∧ (∀ b j : Nat, tag b ≠ 37 → elm F1 b j = elm Fo b j))) := by
  refine t_bodyi (y := yX13_seed) (cd := cX13_seed) (mL := 2) (rt := (some .boolean)) (rm := { frames := 2, cells := 0, slots := 0, locals := 42 }) (av := [.ref p0, .int p1]) (by decide) (Nat.le_of_ble_eq_true rfl) ho ?_
  intro p e s m args below meth c ls A Q hQ X hT hl
  have hx := X.1.1
  have hb := X.1.2.1
  have hl : lv_has ls 2 [(0, .ref p0), (1, .int p1)] := hl
  have rp1 := rg_all p1
  obtain ⟨F, hFo⟩ : ∃ F : Nat → va_E, F = Fo := ⟨_, rfl⟩
  rw [← hFo] at hT pf0
  have hfr : (∀ b j : Nat, (tag b ≠ 46 ∨ j ≠ 0) → (tag b ≠ 46 ∨ j ≠ 1) → (tag b ≠ 46 ∨ j ≠ 2) → fld F b j = fld Fo b j) ∧ (∀ b j : Nat, tag b ≠ 37 → elm F b j = elm Fo b j) := by
    rw [hFo]
    exact ⟨by intros; rfl, by intros; rfl⟩
  refine lv_aload_n hx hb dX13_seed_0 rfl (lv_at hl 0 rfl) ?_
  refine lv_iconst (v := 0) hx hb dX13_seed_1 (by decide) ?_
  refine t_put (C := RX13) (T := TX13) (N := 37) (v := .int 0) X hT m0 g0 rfl tyX13 tyX13_ok nmX13 rfl 0 (by decide) qw_140 inlX13 rfl (by first | rfl | decide) (by first | rfl | decide) rfl (⟨_, rfl, (show (-2147483648) ≤ (0 : Int32).toInt from (by decide)), (show (0 : Int32).toInt ≤ 2147483647 from (by decide))⟩) dX13_seed_2 (fun F H locs hT v84263 h1v84263 h2v84263 => ?_)
  have pf0 := (h1v84263 _ _ (Or.inr (by decide))).trans pf0
  have hfr : (∀ b j : Nat, (tag b ≠ 46 ∨ j ≠ 0) → (tag b ≠ 46 ∨ j ≠ 1) → (tag b ≠ 46 ∨ j ≠ 2) → fld F b j = fld Fo b j) ∧ (∀ b j : Nat, tag b ≠ 37 → elm F b j = elm Fo b j) := ⟨fun b j n46_0 n46_1 n46_2 => (h1v84263 b j (fr_ne g0 n46_0)).trans (hfr.1 b j n46_0 n46_1 n46_2), fun b j a37 => (h2v84263 b j).trans (hfr.2 b j a37)⟩
  refine lv_aload_n hx hb dX13_seed_5 rfl (lv_at hl 0 rfl) ?_
  refine t_get (C := RX13) (T := TX13) (N := 37) X hT m0 g0 rfl rfl 3 (by decide) qw_481 inlX13 rfl dX13_seed_6 (fun v84264 hv84264 ov84264 => ?_)
  obtain rfl : v84264 = .ref x0 := hv84264.symm.trans pf0
  refine lv_ifnonnull (tgt := 18) hx hb dX13_seed_9 (by decide) ?_
  refine lv_iload_n hx hb dX13_seed_18 rfl (lv_at hl 1 rfl) ?_
  refine lv_iconst (v := 0) hx hb dX13_seed_19 (by decide) ?_
  refine m_ldcw X qw_1287 dX13_seed_20 ?_
  refine t_cSi (n := 3) (As := [.int p1, .int 0, .int 65536]) (rest := []) X hT (km19_X13_within l G tag L F hT.2.2.2 p1 0 65536 ) qw_568 qw_569 qw_5 qw_570 ⟨by decide +kernel, by decide +kernel, by decide +kernel⟩ ⟨Nat.le_of_ble_eq_true rfl, Nat.le_of_ble_eq_true rfl⟩ hl rfl rfl (Nat.le_of_ble_eq_true rfl) dX13_seed_23 ⟨Nat.le_of_ble_eq_true rfl, Nat.le_of_ble_eq_true rfl⟩ (fun z84265 F9 H locs hT hz84265 => ?_)
  obtain ⟨fz84265, hz84265, xz84265_0⟩ := hz84265
  rw [fz84265] at hT
  have k84266 : (0 : Int32).toInt = 0 := by decide
  have k84267 : (65536 : Int32).toInt = 65536 := by decide
  refine lv_if_ne (tgt := 35) hx hb dX13_seed_26 (by decide) (fun c84268 => ?_) (fun c84268 => ?_)
  · have w84269 := cv_ne (rfl : z84265.toInt = z84265.toInt) (by decide : (0 : Int32).toInt = 0) c84268
    have w84270 := xz84265_0 (by omega)
    refine lv_aload_n hx hb dX13_seed_35 rfl (lv_at hl 0 rfl) ?_
    refine t_get (C := RX13) (T := TX13) (N := 37) X hT m0 g0 rfl rfl 16 (by decide) qw_112 inlX13 rfl dX13_seed_36 (fun v84271 hv84271 ov84271 => ?_)
    obtain ⟨b84272, rfl, mb84272, gb84272⟩ := okV_r ov84271
    have gb84272 : tag b84272 = 37 := tg_of gb84272
    refine lv_sipush (v := 211) hx hb dX13_seed_39 (by decide) ?_
    refine lv_iload_n hx hb dX13_seed_42 rfl (lv_at hl 1 rfl) ?_
    refine t_ist X hT mb84272 gb84272 rfl (by decide) (row_fv (by decide) (Or.inr (Or.inl (by decide)))) dX13_seed_43 (fun F H locs hT v84273 h1v84273 h2v84273 => ?_)
    have pf0 := (h2v84273 _ _).trans pf0
    have v84263 := (h2v84273 _ _).trans v84263
    have hv84271 := (h2v84273 _ _).trans hv84271
    have hfr : (∀ b j : Nat, (tag b ≠ 46 ∨ j ≠ 0) → (tag b ≠ 46 ∨ j ≠ 1) → (tag b ≠ 46 ∨ j ≠ 2) → fld F b j = fld Fo b j) ∧ (∀ b j : Nat, tag b ≠ 37 → elm F b j = elm Fo b j) := ⟨fun b j n46_0 n46_1 n46_2 => (h2v84273 b j).trans (hfr.1 b j n46_0 n46_1 n46_2), fun b j a37 => (h1v84273 b j (Or.inl (at_ne gb84272 a37))).trans (hfr.2 b j a37)⟩
    refine lv_aload_n hx hb dX13_seed_44 rfl (lv_at hl 0 rfl) ?_
    refine t_cVi (n := 0) (C := RX13) (T := TX13) (N := 37) (As := []) (rest := []) X hT (km269_X13_granted l G tag L F hT.2.2.2 p0 m0 g0) m0 g0 rfl rfl qw_1472 qw_1473 qw_1474 qw_5 qw_1475 ⟨rfl, by decide +kernel, by decide +kernel, by decide +kernel⟩ ⟨Nat.le_of_ble_eq_true rfl, Nat.le_of_ble_eq_true rfl⟩ hl rfl rfl (Nat.le_of_ble_eq_true rfl) dX13_seed_45 ⟨Nat.le_of_ble_eq_true rfl, Nat.le_of_ble_eq_true rfl⟩ (fun z84274 F H locs hT hz84274 => ?_)
    obtain ⟨hz84274, yz84274⟩ := hz84274
    have pf0 := (yz84274.1 _ 3 (Or.inr (by decide)) (Or.inr (by decide))).trans pf0
    have v84263 := (yz84274.1 _ 0 (Or.inr (by decide)) (Or.inr (by decide))).trans v84263
    have hv84271 := (yz84274.1 _ 16 (Or.inr (by decide)) (Or.inr (by decide))).trans hv84271
    have v84273 := (yz84274.2 _ _ ).trans v84273
    have hfr : (∀ b j : Nat, (tag b ≠ 46 ∨ j ≠ 0) → (tag b ≠ 46 ∨ j ≠ 1) → (tag b ≠ 46 ∨ j ≠ 2) → fld F b j = fld Fo b j) ∧ (∀ b j : Nat, tag b ≠ 37 → elm F b j = elm Fo b j) := ⟨fun b j n46_0 n46_1 n46_2 => (yz84274.1 b j n46_1 n46_2).trans (hfr.1 b j n46_0 n46_1 n46_2), fun b j a37 => (yz84274.2 b j ).trans (hfr.2 b j a37)⟩
    exact t_zret hQ X hT (nar_z (by omega)) (⟨(by omega), hfr⟩) (Nat.le_of_ble_eq_true rfl) (Nat.le_of_ble_eq_true rfl) dX13_seed_48
  · have w84275 := cv_eq (rfl : z84265.toInt = z84265.toInt) (by decide : (0 : Int32).toInt = 0) c84268
    refine lv_aload_n hx hb dX13_seed_29 rfl (lv_at hl 0 rfl) ?_
    refine lv_iconst (v := 2) hx hb dX13_seed_30 (by decide) ?_
    refine t_cVi (n := 1) (C := RX13) (T := TX13) (N := 37) (As := [.int 2]) (rest := []) X hT (km268_X13_denied l G tag L F hT.2.2.2 p0 2 m0 g0) m0 g0 rfl rfl qw_1468 qw_1469 qw_1470 qw_5 qw_1471 ⟨rfl, by decide +kernel, by decide +kernel, by decide +kernel⟩ ⟨Nat.le_of_ble_eq_true rfl, Nat.le_of_ble_eq_true rfl⟩ hl rfl rfl (Nat.le_of_ble_eq_true rfl) dX13_seed_31 ⟨Nat.le_of_ble_eq_true rfl, Nat.le_of_ble_eq_true rfl⟩ (fun z84276 F H locs hT hz84276 => ?_)
    obtain ⟨hz84276, yz84276⟩ := hz84276
    have pf0 := (yz84276.1 _ 3 (Or.inr (by decide)) (Or.inr (by decide))).trans pf0
    have v84263 := (yz84276.1 _ 0 (Or.inr (by decide)) (Or.inr (by decide))).trans v84263
    have hfr : (∀ b j : Nat, (tag b ≠ 46 ∨ j ≠ 0) → (tag b ≠ 46 ∨ j ≠ 1) → (tag b ≠ 46 ∨ j ≠ 2) → fld F b j = fld Fo b j) ∧ (∀ b j : Nat, tag b ≠ 37 → elm F b j = elm Fo b j) := ⟨fun b j n46_0 n46_1 n46_2 => (yz84276.1 b j n46_1 n46_2).trans (hfr.1 b j n46_0 n46_1 n46_2), fun b j a37 => (yz84276.2 b j ).trans (hfr.2 b j a37)⟩
    exact t_zret hQ X hT (nar_z (by omega)) (⟨(by omega), hfr⟩) (Nat.le_of_ble_eq_true rfl) (Nat.le_of_ble_eq_true rfl) dX13_seed_34
set_option maxHeartbeats 4000000 in
set_option maxRecDepth 100000 in
theorem km283_X13_seed (l : Launch) (G : KG) (tag : Nat → Nat) (L : List Nat) (Fo : Nat → va_E) (ho : okT G ttC tag L Fo) (p0 : Nat) (p1 : Int32) (m0 : p0 ∈ L) (g0 : tag p0 = 46) (pf0 : fld Fo p0 3 = .null) : TMi l yX13_seed cX13_seed 2 (some .boolean) { frames := 2, cells := 0, slots := 0, locals := 42 } G ttC tag L Fo [.ref p0, .int p1] (fun r F1 => (0 ≤ r.toInt ∧ r.toInt ≤ 1) ∧ ((∀ b j : Nat, (tag b ≠ 46 ∨ j ≠ 0) → (tag b ≠ 46 ∨ j ≠ 1) → (tag b ≠ 46 ∨ j ≠ 2) → fld F1 b j = fld Fo b j) ∧ (∀ b j : Nat, tag b ≠ 37 → elm F1 b j = elm Fo b j))) := by
  refine t_bodyi (y := yX13_seed) (cd := cX13_seed) (mL := 2) (rt := (some .boolean)) (rm := { frames := 2, cells := 0, slots := 0, locals := 42 }) (av := [.ref p0, .int p1]) (by decide) (Nat.le_of_ble_eq_true rfl) ho ?_
  intro p e s m args below meth c ls A Q hQ X hT hl
  have hx := X.1.1
  have hb := X.1.2.1
  have hl : lv_has ls 2 [(0, .ref p0), (1, .int p1)] := hl
  have rp1 := rg_all p1
  obtain ⟨F, hFo⟩ : ∃ F : Nat → va_E, F = Fo := ⟨_, rfl⟩
  rw [← hFo] at hT pf0
  have hfr : (∀ b j : Nat, (tag b ≠ 46 ∨ j ≠ 0) → (tag b ≠ 46 ∨ j ≠ 1) → (tag b ≠ 46 ∨ j ≠ 2) → fld F b j = fld Fo b j) ∧ (∀ b j : Nat, tag b ≠ 37 → elm F b j = elm Fo b j) := by
    rw [hFo]
    exact ⟨by intros; rfl, by intros; rfl⟩
  refine lv_aload_n hx hb dX13_seed_0 rfl (lv_at hl 0 rfl) ?_
  refine lv_iconst (v := 0) hx hb dX13_seed_1 (by decide) ?_
  refine t_put (C := RX13) (T := TX13) (N := 37) (v := .int 0) X hT m0 g0 rfl tyX13 tyX13_ok nmX13 rfl 0 (by decide) qw_140 inlX13 rfl (by first | rfl | decide) (by first | rfl | decide) rfl (⟨_, rfl, (show (-2147483648) ≤ (0 : Int32).toInt from (by decide)), (show (0 : Int32).toInt ≤ 2147483647 from (by decide))⟩) dX13_seed_2 (fun F H locs hT v84310 h1v84310 h2v84310 => ?_)
  have pf0 := (h1v84310 _ _ (Or.inr (by decide))).trans pf0
  have hfr : (∀ b j : Nat, (tag b ≠ 46 ∨ j ≠ 0) → (tag b ≠ 46 ∨ j ≠ 1) → (tag b ≠ 46 ∨ j ≠ 2) → fld F b j = fld Fo b j) ∧ (∀ b j : Nat, tag b ≠ 37 → elm F b j = elm Fo b j) := ⟨fun b j n46_0 n46_1 n46_2 => (h1v84310 b j (fr_ne g0 n46_0)).trans (hfr.1 b j n46_0 n46_1 n46_2), fun b j a37 => (h2v84310 b j).trans (hfr.2 b j a37)⟩
  refine lv_aload_n hx hb dX13_seed_5 rfl (lv_at hl 0 rfl) ?_
  refine t_get (C := RX13) (T := TX13) (N := 37) X hT m0 g0 rfl rfl 3 (by decide) qw_481 inlX13 rfl dX13_seed_6 (fun v84311 hv84311 ov84311 => ?_)
  obtain rfl : v84311 = .null := hv84311.symm.trans pf0
  refine lv_ifnonnullN hx hb dX13_seed_9 ?_
  refine lv_aload_n hx hb dX13_seed_12 rfl (lv_at hl 0 rfl) ?_
  refine lv_iconst (v := 1) hx hb dX13_seed_13 (by decide) ?_
  refine t_cVi (n := 1) (C := RX13) (T := TX13) (N := 37) (As := [.int 1]) (rest := []) X hT (km268_X13_denied l G tag L F hT.2.2.2 p0 1 m0 g0) m0 g0 rfl rfl qw_1468 qw_1469 qw_1470 qw_5 qw_1471 ⟨rfl, by decide +kernel, by decide +kernel, by decide +kernel⟩ ⟨Nat.le_of_ble_eq_true rfl, Nat.le_of_ble_eq_true rfl⟩ hl rfl rfl (Nat.le_of_ble_eq_true rfl) dX13_seed_14 ⟨Nat.le_of_ble_eq_true rfl, Nat.le_of_ble_eq_true rfl⟩ (fun z84312 F H locs hT hz84312 => ?_)
  obtain ⟨hz84312, yz84312⟩ := hz84312
  have pf0 := (yz84312.1 _ 3 (Or.inr (by decide)) (Or.inr (by decide))).trans pf0
  have v84310 := (yz84312.1 _ 0 (Or.inr (by decide)) (Or.inr (by decide))).trans v84310
  have hfr : (∀ b j : Nat, (tag b ≠ 46 ∨ j ≠ 0) → (tag b ≠ 46 ∨ j ≠ 1) → (tag b ≠ 46 ∨ j ≠ 2) → fld F b j = fld Fo b j) ∧ (∀ b j : Nat, tag b ≠ 37 → elm F b j = elm Fo b j) := ⟨fun b j n46_0 n46_1 n46_2 => (yz84312.1 b j n46_1 n46_2).trans (hfr.1 b j n46_0 n46_1 n46_2), fun b j a37 => (yz84312.2 b j ).trans (hfr.2 b j a37)⟩
  exact t_zret hQ X hT (nar_z (by omega)) (⟨(by omega), hfr⟩) (Nat.le_of_ble_eq_true rfl) (Nat.le_of_ble_eq_true rfl) dX13_seed_17
theorem kp_X13_seed (l : Launch) (G : KG) (tag : Nat → Nat) (L : List Nat) (Fo : Nat → va_E) (ho : okT G ttC tag L Fo) (p0 : Nat) (p1 : Int32) (m0 : p0 ∈ L) (g0 : tag p0 = 46) : TMi l yX13_seed cX13_seed 2 (some .boolean) { frames := 2, cells := 0, slots := 0, locals := 42 } G ttC tag L Fo [.ref p0, .int p1] (fun r F1 => (0 ≤ r.toInt ∧ r.toInt ≤ 1) ∧ ((∀ b j : Nat, (tag b ≠ 46 ∨ j ≠ 0) → (tag b ≠ 46 ∨ j ≠ 1) → (tag b ≠ 46 ∨ j ≠ 2) → fld F1 b j = fld Fo b j) ∧ (∀ b j : Nat, tag b ≠ 37 → elm F1 b j = elm Fo b j))) := by
  rcases t_fldn ho m0 g0 rfl 3 rfl with h9 | ⟨b9, h9, m9, t9⟩
  · exact km283_X13_seed l G tag L Fo ho p0 p1  m0 g0 h9 
  · exact km282_X13_seed l G tag L Fo ho p0 p1 b9  m0 g0 m9 (tg_of t9) h9 
set_option maxHeartbeats 4000000 in
set_option maxRecDepth 100000 in
theorem km285_X13_undo (l : Launch) (G : KG) (tag : Nat → Nat) (L : List Nat) (Fo : Nat → va_E) (ho : okT G ttC tag L Fo) (p0 : Nat) (x0 : Nat) (m0 : p0 ∈ L) (g0 : tag p0 = 46) (mx0 : x0 ∈ L) (gx0 : tag x0 = 45) (pf0 : fld Fo p0 3 = .ref x0) : TMi l yX13_undo cX13_undo 2 (some .boolean) { frames := 2, cells := 0, slots := 0, locals := 42 } G ttC tag L Fo [.ref p0] (fun r F1 => (0 ≤ r.toInt ∧ r.toInt ≤ 1) ∧ ((∀ b j : Nat, (tag b ≠ 46 ∨ j ≠ 0) → (tag b ≠ 46 ∨ j ≠ 1) → (tag b ≠ 46 ∨ j ≠ 2) → (tag b ≠ 46 ∨ j ≠ 20) → fld F1 b j = fld Fo b j) ∧ (∀ b j : Nat, tag b ≠ 37 → elm F1 b j = elm Fo b j))) := by
  refine t_bodyi (y := yX13_undo) (cd := cX13_undo) (mL := 2) (rt := (some .boolean)) (rm := { frames := 2, cells := 0, slots := 0, locals := 42 }) (av := [.ref p0]) (by decide) (Nat.le_of_ble_eq_true rfl) ho ?_
  intro p e s m args below meth c ls A Q hQ X hT hl
  have hx := X.1.1
  have hb := X.1.2.1
  have hl : lv_has ls 2 [(0, .ref p0)] := hl
  obtain ⟨F, hFo⟩ : ∃ F : Nat → va_E, F = Fo := ⟨_, rfl⟩
  rw [← hFo] at hT pf0
  have hfr : (∀ b j : Nat, (tag b ≠ 46 ∨ j ≠ 0) → (tag b ≠ 46 ∨ j ≠ 1) → (tag b ≠ 46 ∨ j ≠ 2) → (tag b ≠ 46 ∨ j ≠ 20) → fld F b j = fld Fo b j) ∧ (∀ b j : Nat, tag b ≠ 37 → elm F b j = elm Fo b j) := by
    rw [hFo]
    exact ⟨by intros; rfl, by intros; rfl⟩
  have K38 : ∀ (n : Nat) (z84978 : Int32) (z84979 : Int32) (z84980 : Int32) (F : Nat → va_E) (H : Heap) (locs : List Loc) (ls : Array Slot), (212 - z84978.toInt < (n : Int)) → (0 ≤ z84978.toInt ∧ z84978.toInt ≤ 212) → (0 ≤ z84979.toInt ∧ z84979.toInt ≤ 0) → (0 ≤ z84980.toInt ∧ z84980.toInt ≤ 9) → TH G ttC A s tag L F H locs → ((∀ b j : Nat, (tag b ≠ 46 ∨ j ≠ 0) → (tag b ≠ 46 ∨ j ≠ 1) → (tag b ≠ 46 ∨ j ≠ 2) → (tag b ≠ 46 ∨ j ≠ 20) → fld F b j = fld Fo b j) ∧ (∀ b j : Nat, tag b ≠ 37 → elm F b j = elm Fo b j)) → (fld F p0 3 = .ref x0) → (fld F p0 0 = .int z84979) → (fld F p0 20 = .int z84980) → lv_has ls 2 [(0, .ref p0), (1, .int z84978)] → W p l e { frames := 2, cells := 0, slots := 0, locals := 42 } s m args below meth c H locs 0 0 Q (F0 m 38 ls []) := by
    intro n
    induction n with
    | zero =>
      intro z84978 z84979 z84980 F H locs ls hn rz84978 rz84979 rz84980 hT hfr pf0 qz84979 qz84980 hl
      exfalso
      omega
    | succ n ih38 =>
      intro z84978 z84979 z84980 F H locs ls hn rz84978 rz84979 rz84980 hT hfr pf0 qz84979 qz84980 hl
      refine lv_iload_n hx hb dX13_undo_38 rfl (lv_at hl 1 rfl) ?_
      refine lv_sipush (v := 212) hx hb dX13_undo_39 (by decide) ?_
      refine lv_icmp_ge (tgt := 72) hx hb dX13_undo_42 (by decide) (fun c84981 => ?_) (fun c84981 => ?_)
      · have w84982 := cv_le (by decide : (212 : Int32).toInt = 212) (rfl : z84978.toInt = z84978.toInt) c84981
        refine lv_aload_n hx hb dX13_undo_72 rfl (lv_at hl 0 rfl) ?_
        refine t_cVi (n := 0) (C := RX13) (T := TX13) (N := 37) (As := []) (rest := []) X hT (km269_X13_granted l G tag L F hT.2.2.2 p0 m0 g0) m0 g0 rfl rfl qw_1472 qw_1473 qw_1474 qw_5 qw_1475 ⟨rfl, by decide +kernel, by decide +kernel, by decide +kernel⟩ ⟨Nat.le_of_ble_eq_true rfl, Nat.le_of_ble_eq_true rfl⟩ hl rfl rfl (Nat.le_of_ble_eq_true rfl) dX13_undo_73 ⟨Nat.le_of_ble_eq_true rfl, Nat.le_of_ble_eq_true rfl⟩ (fun z84983 F H locs hT hz84983 => ?_)
        obtain ⟨hz84983, yz84983⟩ := hz84983
        have qz84979 := (yz84983.1 _ 0 (Or.inr (by decide)) (Or.inr (by decide))).trans qz84979
        have qz84980 := (yz84983.1 _ 20 (Or.inr (by decide)) (Or.inr (by decide))).trans qz84980
        have pf0 := (yz84983.1 _ 3 (Or.inr (by decide)) (Or.inr (by decide))).trans pf0
        have hfr : (∀ b j : Nat, (tag b ≠ 46 ∨ j ≠ 0) → (tag b ≠ 46 ∨ j ≠ 1) → (tag b ≠ 46 ∨ j ≠ 2) → (tag b ≠ 46 ∨ j ≠ 20) → fld F b j = fld Fo b j) ∧ (∀ b j : Nat, tag b ≠ 37 → elm F b j = elm Fo b j) := ⟨fun b j n46_0 n46_1 n46_2 n46_20 => (yz84983.1 b j n46_1 n46_2).trans (hfr.1 b j n46_0 n46_1 n46_2 n46_20), fun b j a37 => (yz84983.2 b j ).trans (hfr.2 b j a37)⟩
        exact t_zret hQ X hT (nar_z (by omega)) (⟨(by omega), hfr⟩) (Nat.le_of_ble_eq_true rfl) (Nat.le_of_ble_eq_true rfl) dX13_undo_76
      · have w84984 := cv_nle (by decide : (212 : Int32).toInt = 212) (rfl : z84978.toInt = z84978.toInt) c84981
        refine lv_aload_n hx hb dX13_undo_45 rfl (lv_at hl 0 rfl) ?_
        refine t_get (C := RX13) (T := TX13) (N := 37) X hT m0 g0 rfl rfl 16 (by decide) qw_112 inlX13 rfl dX13_undo_46 (fun v84985 hv84985 ov84985 => ?_)
        obtain ⟨b84986, rfl, mb84986, gb84986⟩ := okV_r ov84985
        have gb84986 : tag b84986 = 37 := tg_of gb84986
        refine lv_iload_n hx hb dX13_undo_49 rfl (lv_at hl 1 rfl) ?_
        refine lv_aload_n hx hb dX13_undo_50 rfl (lv_at hl 0 rfl) ?_
        refine t_get (C := RX13) (T := TX13) (N := 37) X hT m0 g0 rfl rfl 18 (by decide) qw_114 inlX13 rfl dX13_undo_51 (fun v84987 hv84987 ov84987 => ?_)
        obtain ⟨b84988, rfl, mb84988, gb84988⟩ := okV_r ov84987
        have gb84988 : tag b84988 = 38 := tg_of gb84988
        refine lv_sipush (v := 212) hx hb dX13_undo_54 (by decide) ?_
        refine lv_aload_n hx hb dX13_undo_57 rfl (lv_at hl 0 rfl) ?_
        refine t_get (C := RX13) (T := TX13) (N := 37) X hT m0 g0 rfl rfl 20 (by decide) qw_482 inlX13 rfl dX13_undo_58 (fun v84989 hv84989 ov84989 => ?_)
        obtain rfl : v84989 = .int z84980 := hv84989.symm.trans qz84980
        refine lv_imul hx hb dX13_undo_61 ?_
        refine lv_topi (fun z84990 ez84990 => ?_)
        have hz84990 : z84990.toInt = 212 * z84980.toInt := ar_mul ez84990 (by decide : (212 : Int32).toInt = 212) (rfl : z84980.toInt = z84980.toInt) (by omega) (by omega)
        have rz84990 : 0 ≤ z84990.toInt ∧ z84990.toInt ≤ 1908 := by omega
        refine lv_iload_n hx hb dX13_undo_62 rfl (lv_at hl 1 rfl) ?_
        refine lv_iadd hx hb dX13_undo_63 ?_
        refine lv_topi (fun z84991 ez84991 => ?_)
        have hz84991 : z84991.toInt = z84990.toInt + z84978.toInt := ar_add ez84991 (rfl : z84990.toInt = z84990.toInt) (rfl : z84978.toInt = z84978.toInt) (by omega) (by omega)
        have rz84991 : 0 ≤ z84991.toInt ∧ z84991.toInt ≤ 2119 := by omega
        refine t_ild X hT mb84988 gb84988 rfl (by omega) dX13_undo_64 (fun z84992 vz84992 rz84992 => ?_)
        have oz84992 := rz84992
        have rz84992 := rg_all z84992
        refine t_ist X hT mb84986 gb84986 rfl (by omega) (row_c2 (a := z84980.toInt) (by omega) (by omega) (by omega) oz84992) dX13_undo_65 (fun F H locs hT v84993 h1v84993 h2v84993 => ?_)
        have qz84979 := (h2v84993 _ _).trans qz84979
        have qz84980 := (h2v84993 _ _).trans qz84980
        have pf0 := (h2v84993 _ _).trans pf0
        have hv84985 := (h2v84993 _ _).trans hv84985
        have hv84987 := (h2v84993 _ _).trans hv84987
        have vz84992 := (h1v84993 _ _ (Or.inl (tne gb84988 gb84986 (by decide)))).trans vz84992
        have hfr : (∀ b j : Nat, (tag b ≠ 46 ∨ j ≠ 0) → (tag b ≠ 46 ∨ j ≠ 1) → (tag b ≠ 46 ∨ j ≠ 2) → (tag b ≠ 46 ∨ j ≠ 20) → fld F b j = fld Fo b j) ∧ (∀ b j : Nat, tag b ≠ 37 → elm F b j = elm Fo b j) := ⟨fun b j n46_0 n46_1 n46_2 n46_20 => (h2v84993 b j).trans (hfr.1 b j n46_0 n46_1 n46_2 n46_20), fun b j a37 => (h1v84993 b j (Or.inl (at_ne gb84986 a37))).trans (hfr.2 b j a37)⟩
        obtain ⟨z84994, ez84994⟩ : ∃ y : Int32, y = z84978 + 1 := ⟨_, rfl⟩
        have hz84994 : z84994.toInt = z84978.toInt + 1 := ar_add ez84994 rfl (by decide : (1 : Int32).toInt = 1) (by omega) (by omega)
        refine lv_iinc (v := z84994) (lv' := [(1, .int z84994), (0, .ref p0)]) hx hb dX13_undo_66 hl (k := 1) rfl (by rw [ez84994]; rfl) (by decide) rfl (fun ls hl => ?_)
        refine lv_goto (tgt := 38) hx hb dX13_undo_69 (by decide) ?_
        exact ih38 z84994 z84979 z84980 _ _ _ _ (by omega) (by omega) (by omega) (by omega) hT hfr pf0 qz84979 qz84980 (lv_sub hl [1, 0] rfl)
  refine lv_aload_n hx hb dX13_undo_0 rfl (lv_at hl 0 rfl) ?_
  refine lv_iconst (v := 0) hx hb dX13_undo_1 (by decide) ?_
  refine t_put (C := RX13) (T := TX13) (N := 37) (v := .int 0) X hT m0 g0 rfl tyX13 tyX13_ok nmX13 rfl 0 (by decide) qw_140 inlX13 rfl (by first | rfl | decide) (by first | rfl | decide) rfl (⟨_, rfl, (show (-2147483648) ≤ (0 : Int32).toInt from (by decide)), (show (0 : Int32).toInt ≤ 2147483647 from (by decide))⟩) dX13_undo_2 (fun F H locs hT v84995 h1v84995 h2v84995 => ?_)
  have pf0 := (h1v84995 _ _ (Or.inr (by decide))).trans pf0
  have hfr : (∀ b j : Nat, (tag b ≠ 46 ∨ j ≠ 0) → (tag b ≠ 46 ∨ j ≠ 1) → (tag b ≠ 46 ∨ j ≠ 2) → (tag b ≠ 46 ∨ j ≠ 20) → fld F b j = fld Fo b j) ∧ (∀ b j : Nat, tag b ≠ 37 → elm F b j = elm Fo b j) := ⟨fun b j n46_0 n46_1 n46_2 n46_20 => (h1v84995 b j (fr_ne g0 n46_0)).trans (hfr.1 b j n46_0 n46_1 n46_2 n46_20), fun b j a37 => (h2v84995 b j).trans (hfr.2 b j a37)⟩
  refine lv_aload_n hx hb dX13_undo_5 rfl (lv_at hl 0 rfl) ?_
  refine t_get (C := RX13) (T := TX13) (N := 37) X hT m0 g0 rfl rfl 3 (by decide) qw_481 inlX13 rfl dX13_undo_6 (fun v84996 hv84996 ov84996 => ?_)
  obtain rfl : v84996 = .ref x0 := hv84996.symm.trans pf0
  refine lv_ifnull hx hb dX13_undo_9 ?_
  refine lv_aload_n hx hb dX13_undo_12 rfl (lv_at hl 0 rfl) ?_
  refine t_get (C := RX13) (T := TX13) (N := 37) X hT m0 g0 rfl rfl 20 (by decide) qw_482 inlX13 rfl dX13_undo_13 (fun v84997 hv84997 ov84997 => ?_)
  obtain ⟨z84998, rfl, rz84998⟩ := okV_i ov84997
  refine lv_if_ne (tgt := 26) hx hb dX13_undo_16 (by decide) (fun c84999 => ?_) (fun c84999 => ?_)
  · have w85000 := cv_ne (rfl : z84998.toInt = z84998.toInt) (by decide : (0 : Int32).toInt = 0) c84999
    refine lv_aload_n hx hb dX13_undo_26 rfl (lv_at hl 0 rfl) ?_
    refine lv_dup hx hb dX13_undo_27 rfl ?_
    refine t_get (C := RX13) (T := TX13) (N := 37) X hT m0 g0 rfl rfl 20 (by decide) qw_482 inlX13 rfl dX13_undo_28 (fun v85001 hv85001 ov85001 => ?_)
    obtain rfl : v85001 = .int z84998 := hv85001.symm.trans hv84997
    refine lv_iconst (v := 1) hx hb dX13_undo_31 (by decide) ?_
    refine lv_isub hx hb dX13_undo_32 ?_
    refine lv_topi (fun z85002 ez85002 => ?_)
    have hz85002 : z85002.toInt = z84998.toInt - 1 := ar_sub ez85002 (rfl : z84998.toInt = z84998.toInt) (by decide : (1 : Int32).toInt = 1) (by omega) (by omega)
    have rz85002 : 0 ≤ z85002.toInt ∧ z85002.toInt ≤ 9 := by omega
    refine t_put (C := RX13) (T := TX13) (N := 37) (v := .int z85002) X hT m0 g0 rfl tyX13 tyX13_ok nmX13 rfl 20 (by decide) qw_482 inlX13 rfl (by first | rfl | decide) (by first | rfl | decide) rfl (⟨_, rfl, (show 0 ≤ (z85002 : Int32).toInt from (by omega)), (show (z85002 : Int32).toInt ≤ 10 from (by omega))⟩) dX13_undo_33 (fun F H locs hT v85003 h1v85003 h2v85003 => ?_)
    have pf0 := (h1v85003 _ _ (Or.inr (by decide))).trans pf0
    have v84995 := (h1v85003 _ _ (Or.inr (by decide))).trans v84995
    have hfr : (∀ b j : Nat, (tag b ≠ 46 ∨ j ≠ 0) → (tag b ≠ 46 ∨ j ≠ 1) → (tag b ≠ 46 ∨ j ≠ 2) → (tag b ≠ 46 ∨ j ≠ 20) → fld F b j = fld Fo b j) ∧ (∀ b j : Nat, tag b ≠ 37 → elm F b j = elm Fo b j) := ⟨fun b j n46_0 n46_1 n46_2 n46_20 => (h1v85003 b j (fr_ne g0 n46_20)).trans (hfr.1 b j n46_0 n46_1 n46_2 n46_20), fun b j a37 => (h2v85003 b j).trans (hfr.2 b j a37)⟩
    refine lv_iconst (v := 0) hx hb dX13_undo_36 (by decide) ?_
    refine lv_istore_n (lv' := [(1, .int 0), (0, .ref p0)]) hx hb dX13_undo_37 rfl hl (by decide) rfl (fun ls hl => ?_)
    have k85004 : (0 : Int32).toInt = 0 := by decide
    have k85005 : (0 : Int32).toInt = 0 := by decide
    exact K38 213 0 0 z85002 _ _ _ _ (by omega) (by decide) (by decide) (by omega) hT hfr pf0 v84995 v85003 (lv_sub hl [1, 0] rfl)
  · have w85006 := cv_eq (rfl : z84998.toInt = z84998.toInt) (by decide : (0 : Int32).toInt = 0) c84999
    refine lv_aload_n hx hb dX13_undo_19 rfl (lv_at hl 0 rfl) ?_
    refine lv_bipush (v := 6) hx hb dX13_undo_20 (by decide) ?_
    refine t_cVi (n := 1) (C := RX13) (T := TX13) (N := 37) (As := [.int 6]) (rest := []) X hT (km268_X13_denied l G tag L F hT.2.2.2 p0 6 m0 g0) m0 g0 rfl rfl qw_1468 qw_1469 qw_1470 qw_5 qw_1471 ⟨rfl, by decide +kernel, by decide +kernel, by decide +kernel⟩ ⟨Nat.le_of_ble_eq_true rfl, Nat.le_of_ble_eq_true rfl⟩ hl rfl rfl (Nat.le_of_ble_eq_true rfl) dX13_undo_22 ⟨Nat.le_of_ble_eq_true rfl, Nat.le_of_ble_eq_true rfl⟩ (fun z85007 F H locs hT hz85007 => ?_)
    obtain ⟨hz85007, yz85007⟩ := hz85007
    have pf0 := (yz85007.1 _ 3 (Or.inr (by decide)) (Or.inr (by decide))).trans pf0
    have v84995 := (yz85007.1 _ 0 (Or.inr (by decide)) (Or.inr (by decide))).trans v84995
    have hv84997 := (yz85007.1 _ 20 (Or.inr (by decide)) (Or.inr (by decide))).trans hv84997
    have hfr : (∀ b j : Nat, (tag b ≠ 46 ∨ j ≠ 0) → (tag b ≠ 46 ∨ j ≠ 1) → (tag b ≠ 46 ∨ j ≠ 2) → (tag b ≠ 46 ∨ j ≠ 20) → fld F b j = fld Fo b j) ∧ (∀ b j : Nat, tag b ≠ 37 → elm F b j = elm Fo b j) := ⟨fun b j n46_0 n46_1 n46_2 n46_20 => (yz85007.1 b j n46_1 n46_2).trans (hfr.1 b j n46_0 n46_1 n46_2 n46_20), fun b j a37 => (yz85007.2 b j ).trans (hfr.2 b j a37)⟩
    exact t_zret hQ X hT (nar_z (by omega)) (⟨(by omega), hfr⟩) (Nat.le_of_ble_eq_true rfl) (Nat.le_of_ble_eq_true rfl) dX13_undo_25
set_option maxHeartbeats 4000000 in
set_option maxRecDepth 100000 in
theorem km286_X13_undo (l : Launch) (G : KG) (tag : Nat → Nat) (L : List Nat) (Fo : Nat → va_E) (ho : okT G ttC tag L Fo) (p0 : Nat) (m0 : p0 ∈ L) (g0 : tag p0 = 46) (pf0 : fld Fo p0 3 = .null) : TMi l yX13_undo cX13_undo 2 (some .boolean) { frames := 2, cells := 0, slots := 0, locals := 42 } G ttC tag L Fo [.ref p0] (fun r F1 => (0 ≤ r.toInt ∧ r.toInt ≤ 1) ∧ ((∀ b j : Nat, (tag b ≠ 46 ∨ j ≠ 0) → (tag b ≠ 46 ∨ j ≠ 1) → (tag b ≠ 46 ∨ j ≠ 2) → (tag b ≠ 46 ∨ j ≠ 20) → fld F1 b j = fld Fo b j) ∧ (∀ b j : Nat, tag b ≠ 37 → elm F1 b j = elm Fo b j))) := by
  refine t_bodyi (y := yX13_undo) (cd := cX13_undo) (mL := 2) (rt := (some .boolean)) (rm := { frames := 2, cells := 0, slots := 0, locals := 42 }) (av := [.ref p0]) (by decide) (Nat.le_of_ble_eq_true rfl) ho ?_
  intro p e s m args below meth c ls A Q hQ X hT hl
  have hx := X.1.1
  have hb := X.1.2.1
  have hl : lv_has ls 2 [(0, .ref p0)] := hl
  obtain ⟨F, hFo⟩ : ∃ F : Nat → va_E, F = Fo := ⟨_, rfl⟩
  rw [← hFo] at hT pf0
  have hfr : (∀ b j : Nat, (tag b ≠ 46 ∨ j ≠ 0) → (tag b ≠ 46 ∨ j ≠ 1) → (tag b ≠ 46 ∨ j ≠ 2) → (tag b ≠ 46 ∨ j ≠ 20) → fld F b j = fld Fo b j) ∧ (∀ b j : Nat, tag b ≠ 37 → elm F b j = elm Fo b j) := by
    rw [hFo]
    exact ⟨by intros; rfl, by intros; rfl⟩
  refine lv_aload_n hx hb dX13_undo_0 rfl (lv_at hl 0 rfl) ?_
  refine lv_iconst (v := 0) hx hb dX13_undo_1 (by decide) ?_
  refine t_put (C := RX13) (T := TX13) (N := 37) (v := .int 0) X hT m0 g0 rfl tyX13 tyX13_ok nmX13 rfl 0 (by decide) qw_140 inlX13 rfl (by first | rfl | decide) (by first | rfl | decide) rfl (⟨_, rfl, (show (-2147483648) ≤ (0 : Int32).toInt from (by decide)), (show (0 : Int32).toInt ≤ 2147483647 from (by decide))⟩) dX13_undo_2 (fun F H locs hT v85041 h1v85041 h2v85041 => ?_)
  have pf0 := (h1v85041 _ _ (Or.inr (by decide))).trans pf0
  have hfr : (∀ b j : Nat, (tag b ≠ 46 ∨ j ≠ 0) → (tag b ≠ 46 ∨ j ≠ 1) → (tag b ≠ 46 ∨ j ≠ 2) → (tag b ≠ 46 ∨ j ≠ 20) → fld F b j = fld Fo b j) ∧ (∀ b j : Nat, tag b ≠ 37 → elm F b j = elm Fo b j) := ⟨fun b j n46_0 n46_1 n46_2 n46_20 => (h1v85041 b j (fr_ne g0 n46_0)).trans (hfr.1 b j n46_0 n46_1 n46_2 n46_20), fun b j a37 => (h2v85041 b j).trans (hfr.2 b j a37)⟩
  refine lv_aload_n hx hb dX13_undo_5 rfl (lv_at hl 0 rfl) ?_
  refine t_get (C := RX13) (T := TX13) (N := 37) X hT m0 g0 rfl rfl 3 (by decide) qw_481 inlX13 rfl dX13_undo_6 (fun v85042 hv85042 ov85042 => ?_)
  obtain rfl : v85042 = .null := hv85042.symm.trans pf0
  refine lv_ifnullN (tgt := 19) hx hb dX13_undo_9 (by decide) ?_
  refine lv_aload_n hx hb dX13_undo_19 rfl (lv_at hl 0 rfl) ?_
  refine lv_bipush (v := 6) hx hb dX13_undo_20 (by decide) ?_
  refine t_cVi (n := 1) (C := RX13) (T := TX13) (N := 37) (As := [.int 6]) (rest := []) X hT (km268_X13_denied l G tag L F hT.2.2.2 p0 6 m0 g0) m0 g0 rfl rfl qw_1468 qw_1469 qw_1470 qw_5 qw_1471 ⟨rfl, by decide +kernel, by decide +kernel, by decide +kernel⟩ ⟨Nat.le_of_ble_eq_true rfl, Nat.le_of_ble_eq_true rfl⟩ hl rfl rfl (Nat.le_of_ble_eq_true rfl) dX13_undo_22 ⟨Nat.le_of_ble_eq_true rfl, Nat.le_of_ble_eq_true rfl⟩ (fun z85043 F H locs hT hz85043 => ?_)
  obtain ⟨hz85043, yz85043⟩ := hz85043
  have pf0 := (yz85043.1 _ 3 (Or.inr (by decide)) (Or.inr (by decide))).trans pf0
  have v85041 := (yz85043.1 _ 0 (Or.inr (by decide)) (Or.inr (by decide))).trans v85041
  have hfr : (∀ b j : Nat, (tag b ≠ 46 ∨ j ≠ 0) → (tag b ≠ 46 ∨ j ≠ 1) → (tag b ≠ 46 ∨ j ≠ 2) → (tag b ≠ 46 ∨ j ≠ 20) → fld F b j = fld Fo b j) ∧ (∀ b j : Nat, tag b ≠ 37 → elm F b j = elm Fo b j) := ⟨fun b j n46_0 n46_1 n46_2 n46_20 => (yz85043.1 b j n46_1 n46_2).trans (hfr.1 b j n46_0 n46_1 n46_2 n46_20), fun b j a37 => (yz85043.2 b j ).trans (hfr.2 b j a37)⟩
  exact t_zret hQ X hT (nar_z (by omega)) (⟨(by omega), hfr⟩) (Nat.le_of_ble_eq_true rfl) (Nat.le_of_ble_eq_true rfl) dX13_undo_25
theorem kp_X13_undo (l : Launch) (G : KG) (tag : Nat → Nat) (L : List Nat) (Fo : Nat → va_E) (ho : okT G ttC tag L Fo) (p0 : Nat) (m0 : p0 ∈ L) (g0 : tag p0 = 46) : TMi l yX13_undo cX13_undo 2 (some .boolean) { frames := 2, cells := 0, slots := 0, locals := 42 } G ttC tag L Fo [.ref p0] (fun r F1 => (0 ≤ r.toInt ∧ r.toInt ≤ 1) ∧ ((∀ b j : Nat, (tag b ≠ 46 ∨ j ≠ 0) → (tag b ≠ 46 ∨ j ≠ 1) → (tag b ≠ 46 ∨ j ≠ 2) → (tag b ≠ 46 ∨ j ≠ 20) → fld F1 b j = fld Fo b j) ∧ (∀ b j : Nat, tag b ≠ 37 → elm F1 b j = elm Fo b j))) := by
  rcases t_fldn ho m0 g0 rfl 3 rfl with h9 | ⟨b9, h9, m9, t9⟩
  · exact km286_X13_undo l G tag L Fo ho p0  m0 g0 h9 
  · exact km285_X13_undo l G tag L Fo ho p0 b9  m0 g0 m9 (tg_of t9) h9 
set_option maxHeartbeats 4000000 in
set_option maxRecDepth 100000 in
theorem km288_X13_back (l : Launch) (G : KG) (tag : Nat → Nat) (L : List Nat) (Fo : Nat → va_E) (ho : okT G ttC tag L Fo) (p0 : Nat) (p1 : Int32) (x0 : Nat) (m0 : p0 ∈ L) (g0 : tag p0 = 46) (mx0 : x0 ∈ L) (gx0 : tag x0 = 45) (pf0 : fld Fo p0 3 = .ref x0) : TMi l yX13_back cX13_back 3 (some .boolean) { frames := 2, cells := 0, slots := 0, locals := 42 } G ttC tag L Fo [.ref p0, .int p1] (fun r F1 => (0 ≤ r.toInt ∧ r.toInt ≤ 1) ∧ ((∀ b j : Nat, (tag b ≠ 46 ∨ j ≠ 0) → (tag b ≠ 46 ∨ j ≠ 1) → (tag b ≠ 46 ∨ j ≠ 2) → (tag b ≠ 46 ∨ j ≠ 20) → fld F1 b j = fld Fo b j) ∧ (∀ b j : Nat, tag b ≠ 37 → elm F1 b j = elm Fo b j))) := by
  refine t_bodyi (y := yX13_back) (cd := cX13_back) (mL := 3) (rt := (some .boolean)) (rm := { frames := 2, cells := 0, slots := 0, locals := 42 }) (av := [.ref p0, .int p1]) (by decide) (Nat.le_of_ble_eq_true rfl) ho ?_
  intro p e s m args below meth c ls A Q hQ X hT hl
  have hx := X.1.1
  have hb := X.1.2.1
  have hl : lv_has ls 3 [(0, .ref p0), (1, .int p1)] := hl
  have rp1 := rg_all p1
  obtain ⟨F, hFo⟩ : ∃ F : Nat → va_E, F = Fo := ⟨_, rfl⟩
  rw [← hFo] at hT pf0
  have hfr : (∀ b j : Nat, (tag b ≠ 46 ∨ j ≠ 0) → (tag b ≠ 46 ∨ j ≠ 1) → (tag b ≠ 46 ∨ j ≠ 2) → (tag b ≠ 46 ∨ j ≠ 20) → fld F b j = fld Fo b j) ∧ (∀ b j : Nat, tag b ≠ 37 → elm F b j = elm Fo b j) := by
    rw [hFo]
    exact ⟨by intros; rfl, by intros; rfl⟩
  have K32 : ∀ (n : Nat) (z85691 : Int32) (z85692 : Int32) (z85693 : Int32) (F : Nat → va_E) (H : Heap) (locs : List Loc) (ls : Array Slot), (212 - z85691.toInt < (n : Int)) → (0 ≤ z85691.toInt ∧ z85691.toInt ≤ 212) → (0 ≤ z85692.toInt ∧ z85692.toInt ≤ 0) → (1 ≤ z85693.toInt ∧ z85693.toInt ≤ 3) → (0 ≤ p1.toInt ∧ p1.toInt ≤ 2) → TH G ttC A s tag L F H locs → ((∀ b j : Nat, (tag b ≠ 46 ∨ j ≠ 0) → (tag b ≠ 46 ∨ j ≠ 1) → (tag b ≠ 46 ∨ j ≠ 2) → (tag b ≠ 46 ∨ j ≠ 20) → fld F b j = fld Fo b j) ∧ (∀ b j : Nat, tag b ≠ 37 → elm F b j = elm Fo b j)) → (fld F p0 3 = .ref x0) → (fld F p0 0 = .int z85692) → (fld F p0 21 = .int z85693) → lv_has ls 3 [(0, .ref p0), (1, .int p1), (2, .int z85691)] → W p l e { frames := 2, cells := 0, slots := 0, locals := 42 } s m args below meth c H locs 0 0 Q (F0 m 32 ls []) := by
    intro n
    induction n with
    | zero =>
      intro z85691 z85692 z85693 F H locs ls hn rz85691 rz85692 rz85693 r9s85690 hT hfr pf0 qz85692 qz85693 hl
      exfalso
      omega
    | succ n ih32 =>
      intro z85691 z85692 z85693 F H locs ls hn rz85691 rz85692 rz85693 r9s85690 hT hfr pf0 qz85692 qz85693 hl
      refine lv_iload_n hx hb dX13_back_32 rfl (lv_at hl 2 rfl) ?_
      refine lv_sipush (v := 212) hx hb dX13_back_33 (by decide) ?_
      refine lv_icmp_ge (tgt := 63) hx hb dX13_back_36 (by decide) (fun c85694 => ?_) (fun c85694 => ?_)
      · have w85695 := cv_le (by decide : (212 : Int32).toInt = 212) (rfl : z85691.toInt = z85691.toInt) c85694
        refine lv_aload_n hx hb dX13_back_63 rfl (lv_at hl 0 rfl) ?_
        refine lv_iconst (v := 0) hx hb dX13_back_64 (by decide) ?_
        refine t_put (C := RX13) (T := TX13) (N := 37) (v := .int 0) X hT m0 g0 rfl tyX13 tyX13_ok nmX13 rfl 20 (by decide) qw_482 inlX13 rfl (by first | rfl | decide) (by first | rfl | decide) rfl (⟨_, rfl, (show 0 ≤ (0 : Int32).toInt from (by decide)), (show (0 : Int32).toInt ≤ 10 from (by decide))⟩) dX13_back_65 (fun F H locs hT v85696 h1v85696 h2v85696 => ?_)
        have qz85692 := (h1v85696 _ _ (Or.inr (by decide))).trans qz85692
        have qz85693 := (h1v85696 _ _ (Or.inr (by decide))).trans qz85693
        have pf0 := (h1v85696 _ _ (Or.inr (by decide))).trans pf0
        have hfr : (∀ b j : Nat, (tag b ≠ 46 ∨ j ≠ 0) → (tag b ≠ 46 ∨ j ≠ 1) → (tag b ≠ 46 ∨ j ≠ 2) → (tag b ≠ 46 ∨ j ≠ 20) → fld F b j = fld Fo b j) ∧ (∀ b j : Nat, tag b ≠ 37 → elm F b j = elm Fo b j) := ⟨fun b j n46_0 n46_1 n46_2 n46_20 => (h1v85696 b j (fr_ne g0 n46_20)).trans (hfr.1 b j n46_0 n46_1 n46_2 n46_20), fun b j a37 => (h2v85696 b j).trans (hfr.2 b j a37)⟩
        refine lv_aload_n hx hb dX13_back_68 rfl (lv_at hl 0 rfl) ?_
        refine t_cVi (n := 0) (C := RX13) (T := TX13) (N := 37) (As := []) (rest := []) X hT (km269_X13_granted l G tag L F hT.2.2.2 p0 m0 g0) m0 g0 rfl rfl qw_1472 qw_1473 qw_1474 qw_5 qw_1475 ⟨rfl, by decide +kernel, by decide +kernel, by decide +kernel⟩ ⟨Nat.le_of_ble_eq_true rfl, Nat.le_of_ble_eq_true rfl⟩ hl rfl rfl (Nat.le_of_ble_eq_true rfl) dX13_back_69 ⟨Nat.le_of_ble_eq_true rfl, Nat.le_of_ble_eq_true rfl⟩ (fun z85697 F H locs hT hz85697 => ?_)
        obtain ⟨hz85697, yz85697⟩ := hz85697
        have qz85692 := (yz85697.1 _ 0 (Or.inr (by decide)) (Or.inr (by decide))).trans qz85692
        have qz85693 := (yz85697.1 _ 21 (Or.inr (by decide)) (Or.inr (by decide))).trans qz85693
        have pf0 := (yz85697.1 _ 3 (Or.inr (by decide)) (Or.inr (by decide))).trans pf0
        have v85696 := (yz85697.1 _ 20 (Or.inr (by decide)) (Or.inr (by decide))).trans v85696
        have hfr : (∀ b j : Nat, (tag b ≠ 46 ∨ j ≠ 0) → (tag b ≠ 46 ∨ j ≠ 1) → (tag b ≠ 46 ∨ j ≠ 2) → (tag b ≠ 46 ∨ j ≠ 20) → fld F b j = fld Fo b j) ∧ (∀ b j : Nat, tag b ≠ 37 → elm F b j = elm Fo b j) := ⟨fun b j n46_0 n46_1 n46_2 n46_20 => (yz85697.1 b j n46_1 n46_2).trans (hfr.1 b j n46_0 n46_1 n46_2 n46_20), fun b j a37 => (yz85697.2 b j ).trans (hfr.2 b j a37)⟩
        exact t_zret hQ X hT (nar_z (by omega)) (⟨(by omega), hfr⟩) (Nat.le_of_ble_eq_true rfl) (Nat.le_of_ble_eq_true rfl) dX13_back_72
      · have w85698 := cv_nle (by decide : (212 : Int32).toInt = 212) (rfl : z85691.toInt = z85691.toInt) c85694
        refine lv_aload_n hx hb dX13_back_39 rfl (lv_at hl 0 rfl) ?_
        refine t_get (C := RX13) (T := TX13) (N := 37) X hT m0 g0 rfl rfl 16 (by decide) qw_112 inlX13 rfl dX13_back_40 (fun v85699 hv85699 ov85699 => ?_)
        obtain ⟨b85700, rfl, mb85700, gb85700⟩ := okV_r ov85699
        have gb85700 : tag b85700 = 37 := tg_of gb85700
        refine lv_iload_n hx hb dX13_back_43 rfl (lv_at hl 2 rfl) ?_
        refine lv_aload_n hx hb dX13_back_44 rfl (lv_at hl 0 rfl) ?_
        refine t_get (C := RX13) (T := TX13) (N := 37) X hT m0 g0 rfl rfl 19 (by decide) qw_115 inlX13 rfl dX13_back_45 (fun v85701 hv85701 ov85701 => ?_)
        obtain ⟨b85702, rfl, mb85702, gb85702⟩ := okV_r ov85701
        have gb85702 : tag b85702 = 39 := tg_of gb85702
        refine lv_sipush (v := 212) hx hb dX13_back_48 (by decide) ?_
        refine lv_iload_n hx hb dX13_back_51 rfl (lv_at hl 1 rfl) ?_
        refine lv_imul hx hb dX13_back_52 ?_
        refine lv_topi (fun z85703 ez85703 => ?_)
        have hz85703 : z85703.toInt = 212 * p1.toInt := ar_mul ez85703 (by decide : (212 : Int32).toInt = 212) (rfl : p1.toInt = p1.toInt) (by omega) (by omega)
        have rz85703 : 0 ≤ z85703.toInt ∧ z85703.toInt ≤ 424 := by omega
        refine lv_iload_n hx hb dX13_back_53 rfl (lv_at hl 2 rfl) ?_
        refine lv_iadd hx hb dX13_back_54 ?_
        refine lv_topi (fun z85704 ez85704 => ?_)
        have hz85704 : z85704.toInt = z85703.toInt + z85691.toInt := ar_add ez85704 (rfl : z85703.toInt = z85703.toInt) (rfl : z85691.toInt = z85691.toInt) (by omega) (by omega)
        have rz85704 : 0 ≤ z85704.toInt ∧ z85704.toInt ≤ 635 := by omega
        refine t_ild X hT mb85702 gb85702 rfl (by omega) dX13_back_55 (fun z85705 vz85705 rz85705 => ?_)
        have oz85705 := rz85705
        have rz85705 := rg_all z85705
        refine t_ist X hT mb85700 gb85700 rfl (by omega) (row_c2 (a := p1.toInt) (by omega) (by omega) (by omega) oz85705) dX13_back_56 (fun F H locs hT v85706 h1v85706 h2v85706 => ?_)
        have qz85692 := (h2v85706 _ _).trans qz85692
        have qz85693 := (h2v85706 _ _).trans qz85693
        have pf0 := (h2v85706 _ _).trans pf0
        have hv85699 := (h2v85706 _ _).trans hv85699
        have hv85701 := (h2v85706 _ _).trans hv85701
        have vz85705 := (h1v85706 _ _ (Or.inl (tne gb85702 gb85700 (by decide)))).trans vz85705
        have hfr : (∀ b j : Nat, (tag b ≠ 46 ∨ j ≠ 0) → (tag b ≠ 46 ∨ j ≠ 1) → (tag b ≠ 46 ∨ j ≠ 2) → (tag b ≠ 46 ∨ j ≠ 20) → fld F b j = fld Fo b j) ∧ (∀ b j : Nat, tag b ≠ 37 → elm F b j = elm Fo b j) := ⟨fun b j n46_0 n46_1 n46_2 n46_20 => (h2v85706 b j).trans (hfr.1 b j n46_0 n46_1 n46_2 n46_20), fun b j a37 => (h1v85706 b j (Or.inl (at_ne gb85700 a37))).trans (hfr.2 b j a37)⟩
        obtain ⟨z85707, ez85707⟩ : ∃ y : Int32, y = z85691 + 1 := ⟨_, rfl⟩
        have hz85707 : z85707.toInt = z85691.toInt + 1 := ar_add ez85707 rfl (by decide : (1 : Int32).toInt = 1) (by omega) (by omega)
        refine lv_iinc (v := z85707) (lv' := [(2, .int z85707), (0, .ref p0), (1, .int p1)]) hx hb dX13_back_57 hl (k := 2) rfl (by rw [ez85707]; rfl) (by decide) rfl (fun ls hl => ?_)
        refine lv_goto (tgt := 32) hx hb dX13_back_60 (by decide) ?_
        exact ih32 z85707 z85692 z85693 _ _ _ _ (by omega) (by omega) (by omega) (by omega) (by omega) hT hfr pf0 qz85692 qz85693 (lv_sub hl [1, 2, 0] rfl)
  refine lv_aload_n hx hb dX13_back_0 rfl (lv_at hl 0 rfl) ?_
  refine lv_iconst (v := 0) hx hb dX13_back_1 (by decide) ?_
  refine t_put (C := RX13) (T := TX13) (N := 37) (v := .int 0) X hT m0 g0 rfl tyX13 tyX13_ok nmX13 rfl 0 (by decide) qw_140 inlX13 rfl (by first | rfl | decide) (by first | rfl | decide) rfl (⟨_, rfl, (show (-2147483648) ≤ (0 : Int32).toInt from (by decide)), (show (0 : Int32).toInt ≤ 2147483647 from (by decide))⟩) dX13_back_2 (fun F H locs hT v85708 h1v85708 h2v85708 => ?_)
  have pf0 := (h1v85708 _ _ (Or.inr (by decide))).trans pf0
  have hfr : (∀ b j : Nat, (tag b ≠ 46 ∨ j ≠ 0) → (tag b ≠ 46 ∨ j ≠ 1) → (tag b ≠ 46 ∨ j ≠ 2) → (tag b ≠ 46 ∨ j ≠ 20) → fld F b j = fld Fo b j) ∧ (∀ b j : Nat, tag b ≠ 37 → elm F b j = elm Fo b j) := ⟨fun b j n46_0 n46_1 n46_2 n46_20 => (h1v85708 b j (fr_ne g0 n46_0)).trans (hfr.1 b j n46_0 n46_1 n46_2 n46_20), fun b j a37 => (h2v85708 b j).trans (hfr.2 b j a37)⟩
  refine lv_aload_n hx hb dX13_back_5 rfl (lv_at hl 0 rfl) ?_
  refine t_get (C := RX13) (T := TX13) (N := 37) X hT m0 g0 rfl rfl 3 (by decide) qw_481 inlX13 rfl dX13_back_6 (fun v85709 hv85709 ov85709 => ?_)
  obtain rfl : v85709 = .ref x0 := hv85709.symm.trans pf0
  refine lv_ifnull hx hb dX13_back_9 ?_
  refine lv_iload_n hx hb dX13_back_12 rfl (lv_at hl 1 rfl) ?_
  refine lv_if_lt (tgt := 24) hx hb dX13_back_13 (by decide) (fun c85710 => ?_) (fun c85710 => ?_)
  · have w85711 := cv_lt (rfl : p1.toInt = p1.toInt) (by decide : (0 : Int32).toInt = 0) c85710
    refine lv_aload_n hx hb dX13_back_24 rfl (lv_at hl 0 rfl) ?_
    refine lv_iconst (v := 1) hx hb dX13_back_25 (by decide) ?_
    refine t_cVi (n := 1) (C := RX13) (T := TX13) (N := 37) (As := [.int 1]) (rest := []) X hT (km268_X13_denied l G tag L F hT.2.2.2 p0 1 m0 g0) m0 g0 rfl rfl qw_1468 qw_1469 qw_1470 qw_5 qw_1471 ⟨rfl, by decide +kernel, by decide +kernel, by decide +kernel⟩ ⟨Nat.le_of_ble_eq_true rfl, Nat.le_of_ble_eq_true rfl⟩ hl rfl rfl (Nat.le_of_ble_eq_true rfl) dX13_back_26 ⟨Nat.le_of_ble_eq_true rfl, Nat.le_of_ble_eq_true rfl⟩ (fun z85712 F H locs hT hz85712 => ?_)
    obtain ⟨hz85712, yz85712⟩ := hz85712
    have pf0 := (yz85712.1 _ 3 (Or.inr (by decide)) (Or.inr (by decide))).trans pf0
    have v85708 := (yz85712.1 _ 0 (Or.inr (by decide)) (Or.inr (by decide))).trans v85708
    have hfr : (∀ b j : Nat, (tag b ≠ 46 ∨ j ≠ 0) → (tag b ≠ 46 ∨ j ≠ 1) → (tag b ≠ 46 ∨ j ≠ 2) → (tag b ≠ 46 ∨ j ≠ 20) → fld F b j = fld Fo b j) ∧ (∀ b j : Nat, tag b ≠ 37 → elm F b j = elm Fo b j) := ⟨fun b j n46_0 n46_1 n46_2 n46_20 => (yz85712.1 b j n46_1 n46_2).trans (hfr.1 b j n46_0 n46_1 n46_2 n46_20), fun b j a37 => (yz85712.2 b j ).trans (hfr.2 b j a37)⟩
    exact t_zret hQ X hT (nar_z (by omega)) (⟨(by omega), hfr⟩) (Nat.le_of_ble_eq_true rfl) (Nat.le_of_ble_eq_true rfl) dX13_back_29
  · have w85713 := cv_nlt (rfl : p1.toInt = p1.toInt) (by decide : (0 : Int32).toInt = 0) c85710
    refine lv_iload_n hx hb dX13_back_16 rfl (lv_at hl 1 rfl) ?_
    refine lv_aload_n hx hb dX13_back_17 rfl (lv_at hl 0 rfl) ?_
    refine t_get (C := RX13) (T := TX13) (N := 37) X hT m0 g0 rfl rfl 21 (by decide) qw_483 inlX13 rfl dX13_back_18 (fun v85714 hv85714 ov85714 => ?_)
    obtain ⟨z85715, rfl, rz85715⟩ := okV_i ov85714
    refine lv_icmp_lt (tgt := 30) hx hb dX13_back_21 (by decide) (fun c85716 => ?_) (fun c85716 => ?_)
    · have w85717 := cv_lt (rfl : p1.toInt = p1.toInt) (rfl : z85715.toInt = z85715.toInt) c85716
      refine lv_iconst (v := 0) hx hb dX13_back_30 (by decide) ?_
      refine lv_istore_n (lv' := [(2, .int 0), (0, .ref p0), (1, .int p1)]) hx hb dX13_back_31 rfl hl (by decide) rfl (fun ls hl => ?_)
      have k85718 : (0 : Int32).toInt = 0 := by decide
      have k85719 : (0 : Int32).toInt = 0 := by decide
      exact K32 213 0 0 z85715 _ _ _ _ (by omega) (by decide) (by decide) (by omega) (by omega) hT hfr pf0 v85708 hv85714 (lv_sub hl [1, 2, 0] rfl)
    · have w85720 := cv_nlt (rfl : p1.toInt = p1.toInt) (rfl : z85715.toInt = z85715.toInt) c85716
      refine lv_aload_n hx hb dX13_back_24 rfl (lv_at hl 0 rfl) ?_
      refine lv_iconst (v := 1) hx hb dX13_back_25 (by decide) ?_
      refine t_cVi (n := 1) (C := RX13) (T := TX13) (N := 37) (As := [.int 1]) (rest := []) X hT (km268_X13_denied l G tag L F hT.2.2.2 p0 1 m0 g0) m0 g0 rfl rfl qw_1468 qw_1469 qw_1470 qw_5 qw_1471 ⟨rfl, by decide +kernel, by decide +kernel, by decide +kernel⟩ ⟨Nat.le_of_ble_eq_true rfl, Nat.le_of_ble_eq_true rfl⟩ hl rfl rfl (Nat.le_of_ble_eq_true rfl) dX13_back_26 ⟨Nat.le_of_ble_eq_true rfl, Nat.le_of_ble_eq_true rfl⟩ (fun z85721 F H locs hT hz85721 => ?_)
      obtain ⟨hz85721, yz85721⟩ := hz85721
      have pf0 := (yz85721.1 _ 3 (Or.inr (by decide)) (Or.inr (by decide))).trans pf0
      have v85708 := (yz85721.1 _ 0 (Or.inr (by decide)) (Or.inr (by decide))).trans v85708
      have hv85714 := (yz85721.1 _ 21 (Or.inr (by decide)) (Or.inr (by decide))).trans hv85714
      have hfr : (∀ b j : Nat, (tag b ≠ 46 ∨ j ≠ 0) → (tag b ≠ 46 ∨ j ≠ 1) → (tag b ≠ 46 ∨ j ≠ 2) → (tag b ≠ 46 ∨ j ≠ 20) → fld F b j = fld Fo b j) ∧ (∀ b j : Nat, tag b ≠ 37 → elm F b j = elm Fo b j) := ⟨fun b j n46_0 n46_1 n46_2 n46_20 => (yz85721.1 b j n46_1 n46_2).trans (hfr.1 b j n46_0 n46_1 n46_2 n46_20), fun b j a37 => (yz85721.2 b j ).trans (hfr.2 b j a37)⟩
      exact t_zret hQ X hT (nar_z (by omega)) (⟨(by omega), hfr⟩) (Nat.le_of_ble_eq_true rfl) (Nat.le_of_ble_eq_true rfl) dX13_back_29
set_option maxHeartbeats 4000000 in
set_option maxRecDepth 100000 in
theorem km289_X13_back (l : Launch) (G : KG) (tag : Nat → Nat) (L : List Nat) (Fo : Nat → va_E) (ho : okT G ttC tag L Fo) (p0 : Nat) (p1 : Int32) (m0 : p0 ∈ L) (g0 : tag p0 = 46) (pf0 : fld Fo p0 3 = .null) : TMi l yX13_back cX13_back 3 (some .boolean) { frames := 2, cells := 0, slots := 0, locals := 42 } G ttC tag L Fo [.ref p0, .int p1] (fun r F1 => (0 ≤ r.toInt ∧ r.toInt ≤ 1) ∧ ((∀ b j : Nat, (tag b ≠ 46 ∨ j ≠ 0) → (tag b ≠ 46 ∨ j ≠ 1) → (tag b ≠ 46 ∨ j ≠ 2) → (tag b ≠ 46 ∨ j ≠ 20) → fld F1 b j = fld Fo b j) ∧ (∀ b j : Nat, tag b ≠ 37 → elm F1 b j = elm Fo b j))) := by
  refine t_bodyi (y := yX13_back) (cd := cX13_back) (mL := 3) (rt := (some .boolean)) (rm := { frames := 2, cells := 0, slots := 0, locals := 42 }) (av := [.ref p0, .int p1]) (by decide) (Nat.le_of_ble_eq_true rfl) ho ?_
  intro p e s m args below meth c ls A Q hQ X hT hl
  have hx := X.1.1
  have hb := X.1.2.1
  have hl : lv_has ls 3 [(0, .ref p0), (1, .int p1)] := hl
  have rp1 := rg_all p1
  obtain ⟨F, hFo⟩ : ∃ F : Nat → va_E, F = Fo := ⟨_, rfl⟩
  rw [← hFo] at hT pf0
  have hfr : (∀ b j : Nat, (tag b ≠ 46 ∨ j ≠ 0) → (tag b ≠ 46 ∨ j ≠ 1) → (tag b ≠ 46 ∨ j ≠ 2) → (tag b ≠ 46 ∨ j ≠ 20) → fld F b j = fld Fo b j) ∧ (∀ b j : Nat, tag b ≠ 37 → elm F b j = elm Fo b j) := by
    rw [hFo]
    exact ⟨by intros; rfl, by intros; rfl⟩
  refine lv_aload_n hx hb dX13_back_0 rfl (lv_at hl 0 rfl) ?_
  refine lv_iconst (v := 0) hx hb dX13_back_1 (by decide) ?_
  refine t_put (C := RX13) (T := TX13) (N := 37) (v := .int 0) X hT m0 g0 rfl tyX13 tyX13_ok nmX13 rfl 0 (by decide) qw_140 inlX13 rfl (by first | rfl | decide) (by first | rfl | decide) rfl (⟨_, rfl, (show (-2147483648) ≤ (0 : Int32).toInt from (by decide)), (show (0 : Int32).toInt ≤ 2147483647 from (by decide))⟩) dX13_back_2 (fun F H locs hT v85755 h1v85755 h2v85755 => ?_)
  have pf0 := (h1v85755 _ _ (Or.inr (by decide))).trans pf0
  have hfr : (∀ b j : Nat, (tag b ≠ 46 ∨ j ≠ 0) → (tag b ≠ 46 ∨ j ≠ 1) → (tag b ≠ 46 ∨ j ≠ 2) → (tag b ≠ 46 ∨ j ≠ 20) → fld F b j = fld Fo b j) ∧ (∀ b j : Nat, tag b ≠ 37 → elm F b j = elm Fo b j) := ⟨fun b j n46_0 n46_1 n46_2 n46_20 => (h1v85755 b j (fr_ne g0 n46_0)).trans (hfr.1 b j n46_0 n46_1 n46_2 n46_20), fun b j a37 => (h2v85755 b j).trans (hfr.2 b j a37)⟩
  refine lv_aload_n hx hb dX13_back_5 rfl (lv_at hl 0 rfl) ?_
  refine t_get (C := RX13) (T := TX13) (N := 37) X hT m0 g0 rfl rfl 3 (by decide) qw_481 inlX13 rfl dX13_back_6 (fun v85756 hv85756 ov85756 => ?_)
  obtain rfl : v85756 = .null := hv85756.symm.trans pf0
  refine lv_ifnullN (tgt := 24) hx hb dX13_back_9 (by decide) ?_
  refine lv_aload_n hx hb dX13_back_24 rfl (lv_at hl 0 rfl) ?_
  refine lv_iconst (v := 1) hx hb dX13_back_25 (by decide) ?_
  refine t_cVi (n := 1) (C := RX13) (T := TX13) (N := 37) (As := [.int 1]) (rest := []) X hT (km268_X13_denied l G tag L F hT.2.2.2 p0 1 m0 g0) m0 g0 rfl rfl qw_1468 qw_1469 qw_1470 qw_5 qw_1471 ⟨rfl, by decide +kernel, by decide +kernel, by decide +kernel⟩ ⟨Nat.le_of_ble_eq_true rfl, Nat.le_of_ble_eq_true rfl⟩ hl rfl rfl (Nat.le_of_ble_eq_true rfl) dX13_back_26 ⟨Nat.le_of_ble_eq_true rfl, Nat.le_of_ble_eq_true rfl⟩ (fun z85757 F H locs hT hz85757 => ?_)
  obtain ⟨hz85757, yz85757⟩ := hz85757
  have pf0 := (yz85757.1 _ 3 (Or.inr (by decide)) (Or.inr (by decide))).trans pf0
  have v85755 := (yz85757.1 _ 0 (Or.inr (by decide)) (Or.inr (by decide))).trans v85755
  have hfr : (∀ b j : Nat, (tag b ≠ 46 ∨ j ≠ 0) → (tag b ≠ 46 ∨ j ≠ 1) → (tag b ≠ 46 ∨ j ≠ 2) → (tag b ≠ 46 ∨ j ≠ 20) → fld F b j = fld Fo b j) ∧ (∀ b j : Nat, tag b ≠ 37 → elm F b j = elm Fo b j) := ⟨fun b j n46_0 n46_1 n46_2 n46_20 => (yz85757.1 b j n46_1 n46_2).trans (hfr.1 b j n46_0 n46_1 n46_2 n46_20), fun b j a37 => (yz85757.2 b j ).trans (hfr.2 b j a37)⟩
  exact t_zret hQ X hT (nar_z (by omega)) (⟨(by omega), hfr⟩) (Nat.le_of_ble_eq_true rfl) (Nat.le_of_ble_eq_true rfl) dX13_back_29
theorem kp_X13_back (l : Launch) (G : KG) (tag : Nat → Nat) (L : List Nat) (Fo : Nat → va_E) (ho : okT G ttC tag L Fo) (p0 : Nat) (p1 : Int32) (m0 : p0 ∈ L) (g0 : tag p0 = 46) : TMi l yX13_back cX13_back 3 (some .boolean) { frames := 2, cells := 0, slots := 0, locals := 42 } G ttC tag L Fo [.ref p0, .int p1] (fun r F1 => (0 ≤ r.toInt ∧ r.toInt ≤ 1) ∧ ((∀ b j : Nat, (tag b ≠ 46 ∨ j ≠ 0) → (tag b ≠ 46 ∨ j ≠ 1) → (tag b ≠ 46 ∨ j ≠ 2) → (tag b ≠ 46 ∨ j ≠ 20) → fld F1 b j = fld Fo b j) ∧ (∀ b j : Nat, tag b ≠ 37 → elm F1 b j = elm Fo b j))) := by
  rcases t_fldn ho m0 g0 rfl 3 rfl with h9 | ⟨b9, h9, m9, t9⟩
  · exact km289_X13_back l G tag L Fo ho p0 p1  m0 g0 h9 
  · exact km288_X13_back l G tag L Fo ho p0 p1 b9  m0 g0 m9 (tg_of t9) h9 
